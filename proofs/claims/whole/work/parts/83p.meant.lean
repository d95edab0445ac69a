/-! PURE: the first and the last who are meant -/
theorem flF_R {K : Int → Int} {people : Int} : ∀ (n : Nat) (p : Int) (x : Int × Int), x.2 < p → ((flF K people n p x).1 ≤ x.1 ∧ x.2 ≤ (flF K people n p x).2) ∧ (∀ q, p ≤ q → q < p + n → sai K people q → (flF K people n p x).1 ≤ q ∧ q ≤ (flF K people n p x).2) ∧ ((flF K people n p x).1 = x.1 ∨ (p ≤ (flF K people n p x).1 ∧ (flF K people n p x).1 < p + n ∧ sai K people (flF K people n p x).1)) ∧ ((flF K people n p x).2 = x.2 ∨ (p ≤ (flF K people n p x).2 ∧ (flF K people n p x).2 < p + n ∧ sai K people (flF K people n p x).2))
  | 0, p, x, _ => ⟨⟨Int.le_refl _, Int.le_refl _⟩, fun q q0 q1 => by omega, Or.inl rfl, Or.inl rfl⟩
  | n + 1, p, x, hx => by
    rw [flF_s]
    by_cases c : sai K people p
    · rw [if_pos c]
      obtain ⟨⟨h1, h2⟩, h3, h4, h5⟩ := flF_R (K := K) (people := people) n (p + 1) (min x.1 p, p) (by show p < p + 1; omega)
      generalize flF K people n (p + 1) (min x.1 p, p) = r at h1 h2 h3 h4 h5 ⊢
      dsimp only at h1 h2 h4 h5
      refine ⟨⟨by omega, by omega⟩, fun q q0 q1 qs => ?_, ?_, ?_⟩
      · by_cases e : q = p
        · omega
        · exact h3 q (by omega) (by omega) qs
      · rcases h4 with h4 | ⟨u1, u2, u3⟩
        · by_cases e : x.1 ≤ p
          · left; omega
          · right
            refine ⟨by omega, by omega, ?_⟩
            rw [show r.1 = p by omega]
            exact c
        · exact Or.inr ⟨by omega, by omega, u3⟩
      · rcases h5 with h5 | ⟨u1, u2, u3⟩
        · right
          refine ⟨by omega, by omega, ?_⟩
          rw [h5]
          exact c
        · exact Or.inr ⟨by omega, by omega, u3⟩
    · rw [if_neg c]
      obtain ⟨h1, h3, h4, h5⟩ := flF_R (K := K) (people := people) n (p + 1) x (by omega)
      refine ⟨h1, fun q q0 q1 qs => ?_, ?_, ?_⟩
      · by_cases e : q = p
        · rw [e] at qs; exact absurd qs c
        · exact h3 q (by omega) (by omega) qs
      · rcases h4 with h4 | ⟨u1, u2, u3⟩
        · exact Or.inl h4
        · exact Or.inr ⟨by omega, by omega, u3⟩
      · rcases h5 with h5 | ⟨u1, u2, u3⟩
        · exact Or.inl h5
        · exact Or.inr ⟨by omega, by omega, u3⟩
/-- runs that hold all who are meant -/
theorem hAl_fl {K : Int → Int} {people f l : Int} (hn : 0 ≤ K 0) (h : flF K people (K 0 - 0).toNat 0 (K 0, -1) = (f, l)) (hl : l ≠ -1) (a b : Int) : hAl K people a b ↔ a ≤ f ∧ l < b := by
  have hr := flF_R (K := K) (people := people) (K 0 - 0).toNat 0 (K 0, -1) (by show (-1 : Int) < 0; omega)
  rw [h] at hr
  obtain ⟨⟨h1, h2⟩, h3, h4, h5⟩ := hr
  dsimp only at h1 h2 h3 h4 h5
  have h5b : 0 ≤ l ∧ l < K 0 ∧ sai K people l := by
    rcases h5 with h5 | ⟨u1, u2, u3⟩
    · exact absurd h5 hl
    · exact ⟨u1, by omega, u3⟩
  have h6 := h3 l h5b.1 (by omega) h5b.2.2
  have h4b : 0 ≤ f ∧ f < K 0 ∧ sai K people f := by
    rcases h4 with h4 | ⟨u1, u2, u3⟩
    · omega
    · exact ⟨u1, by omega, u3⟩
  constructor
  · intro z
    have z1 := z f.toNat (by omega)
    have z2 := z l.toNat (by omega)
    rw [Int.toNat_of_nonneg h4b.1] at z1
    rw [Int.toNat_of_nonneg h5b.1] at z2
    constructor
    · rcases z1 with z1 | z1
      · exact z1.1
      · exact absurd h4b.2.2 z1
    · rcases z2 with z2 | z2
      · exact z2.2
      · exact absurd h5b.2.2 z2
  · intro z k hk
    by_cases c : sai K people (k : Int)
    · have h7 := h3 (k : Int) (by omega) (by omega) c
      exact Or.inl ⟨by omega, by omega⟩
    · exact Or.inr c
theorem fl_none {K : Int → Int} {people f l : Int} (h : flF K people (K 0 - 0).toNat 0 (K 0, -1) = (f, l)) (hl : l = -1) (q : Int) (q0 : 0 ≤ q) (q1 : q < K 0) : ¬ sai K people q := by
  have hr := flF_R (K := K) (people := people) (K 0 - 0).toNat 0 (K 0, -1) (by show (-1 : Int) < 0; omega)
  rw [h] at hr
  intro c
  have h9 := hr.2.1 q q0 (by omega) c
  dsimp only at h9
  omega
