/-! PURE: struck signs by a stack of ends -/
theorem lcF_out {K : Int → Int} : ∀ (k : Nat) (a b : Int) (x : Int → Int) (j : Int), (j < a ∨ b ≤ j) → lcF K k a b x j = x j
  | 0, a, b, x, j, _ => rfl
  | k + 1, a, b, x, j, h => by
    rw [lcF_def]
    have hm := mtS_R (K := K) (a := a) (b := b)
    split
    · rfl
    · split
      · rw [lcF_out k (a + 1) b _ j (by omega), up_ne (by omega)]
      · rw [lcF_out k (mtS K a b + 1) b _ j (by omega), lcF_out k (a + 1) (mtS K a b) _ j (by omega), up_ne (by omega), up_ne (by omega)]
theorem lc_out {K : Int → Int} {a b : Int} {x : Int → Int} {j : Int} (h : j < a ∨ b ≤ j) : lc K a b x j = x j := lcF_out _ a b x j h
theorem lcF_ind {K : Int → Int} : ∀ (k : Nat) (a b : Int) (x z : Int → Int) (j : Int), b - a ≤ k → a ≤ j → j < b → lcF K k a b x j = lcF K k a b z j
  | 0, a, b, x, z, j, _, _, _ => by omega
  | k + 1, a, b, x, z, j, hk, h0, h1 => by
    rw [lcF_def, lcF_def]
    have hm := mtS_R (K := K) (a := a) (b := b)
    have hba : ¬ b ≤ a := by omega
    rw [if_neg hba, if_neg hba]
    by_cases c1 : mtS K a b = -1
    · rw [if_pos c1, if_pos c1]
      by_cases e : j = a
      · rw [lcF_out k (a + 1) b _ j (by omega), lcF_out k (a + 1) b _ j (by omega), e, up_eq, up_eq]
      · exact lcF_ind k (a + 1) b _ _ j (by omega) (by omega) h1
    · rw [if_neg c1, if_neg c1]
      by_cases c : mtS K a b + 1 ≤ j
      · exact lcF_ind k (mtS K a b + 1) b _ _ j (by omega) c h1
      · rw [lcF_out k (mtS K a b + 1) b _ j (by omega), lcF_out k (mtS K a b + 1) b _ j (by omega)]
        by_cases c2 : a + 1 ≤ j ∧ j < mtS K a b
        · exact lcF_ind k (a + 1) (mtS K a b) _ _ j (by omega) c2.1 c2.2
        · rw [lcF_out k (a + 1) (mtS K a b) _ j (by omega), lcF_out k (a + 1) (mtS K a b) _ j (by omega)]
          by_cases e : j = mtS K a b
          · rw [e, up_eq, up_eq]
          · have e2 : j = a := by omega
            rw [up_ne e, up_ne e, e2, up_eq, up_eq]
theorem lc_ind {K : Int → Int} {a b : Int} {x z : Int → Int} {j : Int} (h0 : a ≤ j) (h1 : j < b) : lc K a b x j = lc K a b z j := lcF_ind _ a b x z j (Int.self_le_toNat _) h0 h1
def Rh (K F : Int → Int) (a b : Int) : Prop := ∀ (x : Int → Int) (j : Int), a ≤ j → j < b → F j = lc K a b x j
theorem Rh.one {K F : Int → Int} {a b : Int} (h : Rh K F a b) (ab : a < b) (c : mtS K a b = -1) : F a = (if 6 ≤ K (1 + a) then 0 else 1) ∧ Rh K F (a + 1) b := by
  constructor
  · rw [h z0 a (by omega) ab, lc_1 ab c, lc_out (by omega), up_eq]
  · intro x j j0 j1
    rw [h z0 j (by omega) j1, lc_1 ab c]
    exact lc_ind j0 j1
theorem Rh.two {K F : Int → Int} {a b : Int} (h : Rh K F a b) (ab : a < b) (c : mtS K a b ≠ -1) : F a = 0 ∧ F (mtS K a b) = 0 ∧ Rh K F (a + 1) (mtS K a b) ∧ Rh K F (mtS K a b + 1) b := by
  have hm := mtS_R (K := K) (a := a) (b := b)
  refine ⟨?_, ?_, ?_, ?_⟩
  · rw [h z0 a (by omega) ab, lc_2 ab c, lc_out (by omega), lc_out (by omega), up_ne (by omega), up_eq]
  · rw [h z0 (mtS K a b) (by omega) (by omega), lc_2 ab c, lc_out (by omega), lc_out (by omega), up_eq]
  · intro x j j0 j1
    rw [h z0 j (by omega) (by omega), lc_2 ab c, lc_out (by omega)]
    exact lc_ind j0 j1
  · intro x j j0 j1
    rw [h z0 j (by omega) j1, lc_2 ab c]
    exact lc_ind j0 j1
def EN (to_ top : Int) (oq : Int → Int) (i : Int) : Int := if i = top then to_ else oq i
theorem EN_t {to_ top : Int} {oq : Int → Int} : EN to_ top oq top = to_ := if_pos rfl
theorem EN_n {to_ top i : Int} {oq : Int → Int} (h : i ≠ top) : EN to_ top oq i = oq i := if_neg h
def CSt (K F : Int → Int) (n p to_ top : Int) (oq : Int → Int) : Prop := EN to_ top oq 0 = n ∧ Rh K F p to_ ∧ p ≤ to_ ∧ to_ ≤ n ∧ ∀ i, 0 ≤ i → i < top → F (EN to_ top oq (i + 1)) = 0 ∧ EN to_ top oq (i + 1) < oq i ∧ oq i ≤ n ∧ Rh K F (EN to_ top oq (i + 1) + 1) (oq i)
theorem CSt.start {K : Int → Int} {n : Int} {x oq : Int → Int} (h : 0 ≤ n) : CSt K (lc K 0 n x) n 0 n 0 oq :=
  ⟨EN_t, fun y j j0 j1 => lc_ind j0 j1, h, Int.le_refl _, fun i i0 i1 => by omega⟩
theorem CSt.pop {K F oq : Int → Int} {n to_ top : Int} (h : CSt K F n to_ to_ top oq) (ht : 0 < top) : F to_ = 0 ∧ CSt K F n (to_ + 1) (oq (top - 1)) (top - 1) oq := by
  obtain ⟨h1, h2, h3, h4, h5⟩ := h
  have h6 := h5 (top - 1) (by omega) (by omega)
  rw [show top - 1 + 1 = top by omega, EN_t] at h6
  refine ⟨h6.1, ?_, h6.2.2.2, by omega, h6.2.2.1, fun i i0 i1 => ?_⟩
  · rw [EN_n (by omega)] at h1
    by_cases e : 0 = top - 1
    · rw [← e, EN_t]; exact h1
    · rw [EN_n e]; exact h1
  · have h7 := h5 i i0 (by omega)
    rw [EN_n (by omega)] at h7
    by_cases e : i + 1 = top - 1
    · rw [e, EN_t, ← e]; exact h7
    · rw [EN_n e]; exact h7
theorem CSt.plain {K F oq : Int → Int} {n p to_ top : Int} (h : CSt K F n p to_ top oq) (hp : p < to_) (c : mtS K p to_ = -1) : F p = (if 6 ≤ K (1 + p) then 0 else 1) ∧ CSt K F n (p + 1) to_ top oq := by
  obtain ⟨h1, h2, h3, h4, h5⟩ := h
  have h6 := h2.one hp c
  exact ⟨h6.1, h1, h6.2, by omega, h4, h5⟩
theorem CSt.push {K F oq : Int → Int} {n p to_ top : Int} (h : CSt K F n p to_ top oq) (ht : 0 ≤ top) (hp : p < to_) (c : mtS K p to_ ≠ -1) : F p = 0 ∧ CSt K F n (p + 1) (mtS K p to_) (top + 1) (up oq top to_) := by
  have hm := mtS_R (K := K) (a := p) (b := to_)
  obtain ⟨h1, h2, h3, h4, h5⟩ := h
  have h6 := h2.two hp c
  have hE : ∀ i, 0 ≤ i → i ≤ top → EN (mtS K p to_) (top + 1) (up oq top to_) i = EN to_ top oq i := by
    intro i i0 i1
    rw [EN_n (by omega)]
    by_cases e : i = top
    · rw [e, up_eq, EN_t]
    · rw [up_ne e, EN_n e]
  refine ⟨h6.1, ?_, h6.2.2.1, by omega, by omega, fun i i0 i1 => ?_⟩
  · rw [hE 0 (by omega) ht]; exact h1
  · by_cases e : i = top
    · rw [e, EN_t, up_eq]
      exact ⟨h6.2.1, by omega, h4, h6.2.2.2⟩
    · rw [hE (i + 1) (by omega) (by omega), up_ne e]
      exact h5 i i0 (by omega)
theorem mtS_no {K : Int → Int} {a b : Int} (h : ¬ K (1 + a) < 3) : mtS K a b = -1 := by
  unfold mtS
  have key : ∀ (n : Nat) (q : Int), fsF (mtP K a b) n q = -1 := by
    intro n
    induction n with
    | zero => intro q; rfl
    | succ n ih =>
      intro q
      unfold fsF
      rw [if_neg (fun z => h z.1.1)]
      exact ih (q + 1)
  exact key _ _
