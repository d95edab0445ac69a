/-! PURE: rows that are whole: which way mates lie -/
def PW (K : Int → Int) (p many loose : Int) (po op : Int → Int) : Prop := (∀ j, 0 ≤ j → j < many → K (1 + op j) < 3) ∧ (∀ q, 0 ≤ q → q < p → K (1 + q) < 3 → q < po q ∨ ∃ j, 0 ≤ j ∧ j < many ∧ op j = q) ∧ (∀ q, 0 ≤ q → q < p → 3 ≤ K (1 + q) → K (1 + q) ≤ 5 → (0 ≤ po q ∧ po q < q) ∨ 1 ≤ loose)
theorem prS_PW {K : Int → Int} {p many loose : Int} {po op : Int → Int} (hp : 0 ≤ p) (hl : 0 ≤ loose) (hI : PIv 0 p many po op) (h : PW K p many loose po op) : PW K (p + 1) (prS K p many loose po op).1 (prS K p many loose po op).2.1 (prS K p many loose po op).2.2.1 (prS K p many loose po op).2.2.2 := by
  obtain ⟨h1, h2, h3⟩ := h
  obtain ⟨i0, i1, i2, i3⟩ := hI
  unfold prS
  split
  · next c =>
    refine ⟨fun j j0 j1 => ?_, fun q q0 q1 qc => ?_, fun q q0 q1 qc qd => ?_⟩
    · show K (1 + up op many p j) < 3
      have j2 : j < many + 1 := j1
      by_cases e : j = many
      · rw [e, up_eq]; exact c
      · rw [up_ne e]; exact h1 j j0 (by omega)
    · show q < up po p (-1) q ∨ ∃ j, 0 ≤ j ∧ j < many + 1 ∧ up op many p j = q
      by_cases e : q = p
      · exact Or.inr ⟨many, i0, by omega, by rw [up_eq, e]⟩
      · rcases h2 q q0 (by omega) qc with z | ⟨j, j0, j1, z⟩
        · left; rw [up_ne e]; exact z
        · exact Or.inr ⟨j, j0, by omega, by rw [up_ne (by omega)]; exact z⟩
    · show (0 ≤ up po p (-1) q ∧ up po p (-1) q < q) ∨ 1 ≤ loose
      have e : q ≠ p := fun e => by rw [e] at qc; omega
      rw [up_ne e]
      exact h3 q q0 (by omega) qc qd
  · next c =>
    split
    · next c2 =>
      have hm := c2.2.1
      obtain ⟨m1, m2, m3⟩ := i1 (many - 1) (by omega) (by omega)
      have hmo := h1 (many - 1) (by omega) (by omega)
      refine ⟨fun j j0 j1 => ?_, fun q q0 q1 qc => ?_, fun q q0 q1 qc qd => ?_⟩
      · have j2 : j < many - 1 := j1
        exact h1 j j0 (by omega)
      · show q < up (up (up po p (-1)) p (op (many - 1))) (op (many - 1)) p q ∨ ∃ j, 0 ≤ j ∧ j < many - 1 ∧ op j = q
        by_cases e : q = op (many - 1)
        · left; rw [e, up_eq]; exact m2
        · have e2 : q ≠ p := fun e => by rw [e] at qc; exact c qc
          rw [up_ne e, up_ne e2, up_ne e2]
          rcases h2 q q0 (by omega) qc with z | ⟨j, j0, j1, z⟩
          · exact Or.inl z
          · by_cases ej : j = many - 1
            · rw [ej] at z; exact absurd z.symm e
            · exact Or.inr ⟨j, j0, by omega, z⟩
      · show (0 ≤ up (up (up po p (-1)) p (op (many - 1))) (op (many - 1)) p q ∧ up (up (up po p (-1)) p (op (many - 1))) (op (many - 1)) p q < q) ∨ 1 ≤ loose
        have e : q ≠ op (many - 1) := fun e => by rw [e] at qc; omega
        rw [up_ne e]
        by_cases e2 : q = p
        · left; rw [e2, up_eq]; exact ⟨m1, m2⟩
        · rw [up_ne e2, up_ne e2]
          exact h3 q q0 (by omega) qc qd
    · split
      · next c3 =>
        refine ⟨h1, fun q q0 q1 qc => ?_, fun q q0 q1 qc qd => Or.inr (show 1 ≤ loose + 1 by omega)⟩
        have e : q ≠ p := fun e => by rw [e] at qc; exact c qc
        show q < up po p (-1) q ∨ _
        rw [up_ne e]
        exact h2 q q0 (by omega) qc
      · next c3 =>
        refine ⟨h1, fun q q0 q1 qc => ?_, fun q q0 q1 qc qd => ?_⟩
        · have e : q ≠ p := fun e => by rw [e] at qc; exact c qc
          show q < up po p (-1) q ∨ _
          rw [up_ne e]
          exact h2 q q0 (by omega) qc
        · have e : q ≠ p := fun e => by rw [e] at qc qd; exact c3 ⟨qc, qd⟩
          show (0 ≤ up po p (-1) q ∧ up po p (-1) q < q) ∨ _
          rw [up_ne e]
          exact h3 q q0 (by omega) qc qd
theorem prs_PW {K : Int → Int} : ∀ (n : Nat) (p : Int) (q : Int × Int × (Int → Int) × (Int → Int)), 0 ≤ p → 0 ≤ q.2.1 → PIv 0 p q.1 q.2.2.1 q.2.2.2 → PW K p q.1 q.2.1 q.2.2.1 q.2.2.2 → PW K (p + n) (prs K n p q).1 (prs K n p q).2.1 (prs K n p q).2.2.1 (prs K n p q).2.2.2
  | 0, p, q, hp, hl, hI, h => by simpa [prs] using h
  | n + 1, p, q, hp, hl, hI, h => by
    have := prs_PW (K := K) n (p + 1) _ (by omega) (Int.le_trans hl (prS_lo (K := K) (p := p) (many := q.1) (po := q.2.2.1) (op := q.2.2.2))) (prS_PIv (K := K) (loose := q.2.1) (Int.le_refl 0) hp hI) (prS_PW hp hl hI h)
    rw [show p + ((n + 1 : Nat) : Int) = p + 1 + (n : Int) by omega]
    exact this
theorem whole_mt {K : Int → Int} (h0 : 0 ≤ K 0) (hl : lo K 0 (K 0) = 0) (q : Int) (q0 : 0 ≤ q) (q1 : q < K 0) : (K (1 + q) < 3 → q < mt K q) ∧ (3 ≤ K (1 + q) → K (1 + q) ≤ 5 → 0 ≤ mt K q ∧ mt K q < q) := by
  have hp := prs_PW (K := K) (K 0 - 0).toNat 0 (0, 0, z0, z0) (Int.le_refl 0) (Int.le_refl 0) ⟨Int.le_refl 0, fun j a b => by simp only at b; omega, fun i j a b c => by simp only at c; omega, fun q a b => by omega⟩ ⟨fun j a b => by simp only at b; omega, fun q a b => by omega, fun q a b => by omega⟩
  have hr := prs_R (K := K) (K 0 - 0).toNat 0 (0, 0, z0, z0) (Int.le_refl 0) (Int.le_refl 0)
  have hlo : (prs K (K 0 - 0).toNat 0 (0, 0, z0, z0)).2.1 + (prs K (K 0 - 0).toNat 0 (0, 0, z0, z0)).1 = 0 := hl
  have e : mt K q = (prs K (K 0 - 0).toNat 0 (0, 0, z0, z0)).2.2.1 q := rfl
  rw [e]
  generalize prs K (K 0 - 0).toNat 0 (0, 0, z0, z0) = Z at *
  obtain ⟨p1, p2, p3⟩ := hp
  refine ⟨fun c => ?_, fun c c2 => ?_⟩
  · rcases p2 q q0 (by omega) c with z | ⟨j, j0, j1, z⟩
    · exact z
    · omega
  · rcases p3 q q0 (by omega) c c2 with z | z
    · exact z
    · omega
/-- how deep one is ahead of a place of a whole row -/
theorem whole_dp {K : Int → Int} (h0 : 0 ≤ K 0) (hl : lo K 0 (K 0) = 0) {p : Int} (p0 : 0 ≤ p) (p1 : p < K 0) (hs : 0 ≤ K (1 + p) ∧ K (1 + p) ≤ 5) : (K (1 + p) < 3 → dp K p = dpc (mt K) (p - 1) p.toNat) ∧ dpc (mt K) p (p + 1).toNat = dpc (mt K) (p - 1) p.toNat + (if K (1 + p) < 3 then 1 else -1) := by
  have hm := whole_mt h0 hl p p0 p1
  have hM : MtI (mt K) (K 0) := prR_MtI h0
  have hb := dpc_b hM p0 p1
  have hs2 := dpc_s (m := mt K) (p := p) (q := p) p0
  unfold dp
  by_cases c : K (1 + p) < 3
  · have := hm.1 c
    rw [if_neg (by omega)] at hb
    rw [if_pos (by omega)] at hs2
    rw [if_pos c]
    exact ⟨fun _ => by omega, by omega⟩
  · have := hm.2 (by omega) hs.2
    rw [if_pos (by omega)] at hb
    rw [if_neg (by omega)] at hs2
    rw [if_neg c]
    exact ⟨fun q => absurd q c, by omega⟩
