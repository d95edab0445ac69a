/-! PURE: rows of the class: mates are mates of each other, depths by counting, whole runs -/
def PIv (a p many : Int) (po op : Int → Int) : Prop := 0 ≤ many ∧ (∀ j, 0 ≤ j → j < many → a ≤ op j ∧ op j < p ∧ po (op j) = -1) ∧ (∀ i j, 0 ≤ i → i < j → j < many → op i < op j) ∧ (∀ q, a ≤ q → q < p → po q = -1 ∨ (a ≤ po q ∧ po q < p ∧ po q ≠ q ∧ po (po q) = q))
theorem prS_PIv {K : Int → Int} {a p many loose : Int} {po op : Int → Int} (ha0 : 0 ≤ a) (ha : a ≤ p) (h : PIv a p many po op) : PIv a (p + 1) (prS K p many loose po op).1 (prS K p many loose po op).2.2.1 (prS K p many loose po op).2.2.2 := by
  obtain ⟨h0, h1, h2, h3⟩ := h
  have hq0 : ∀ q, a ≤ q → q < p + 1 → up po p (-1) q = -1 ∨ (a ≤ up po p (-1) q ∧ up po p (-1) q < p + 1 ∧ up po p (-1) q ≠ q ∧ up po p (-1) (up po p (-1) q) = q) := by
    intro q q1 q2
    by_cases e : q = p
    · left; rw [e, up_eq]
    · rw [up_ne e]
      rcases h3 q q1 (by omega) with h | ⟨z1, z2, z3, z4⟩
      · left; exact h
      · right
        refine ⟨z1, by omega, z3, ?_⟩
        rw [up_ne (by omega)]
        exact z4
  have hj0 : ∀ j, 0 ≤ j → j < many → a ≤ op j ∧ op j < p + 1 ∧ up po p (-1) (op j) = -1 := by
    intro j j1 j2
    obtain ⟨z1, z2, z3⟩ := h1 j j1 j2
    refine ⟨z1, by omega, ?_⟩
    rw [up_ne (by omega)]
    exact z3
  unfold prS
  split
  · refine ⟨by simp only; omega, fun j j1 j2 => ?_, fun i j i1 i2 i3 => ?_, hq0⟩
    · show a ≤ up op many p j ∧ up op many p j < p + 1 ∧ up po p (-1) (up op many p j) = -1
      by_cases e : j = many
      · rw [e, up_eq, up_eq]
        exact ⟨ha, by omega, rfl⟩
      · rw [up_ne e]
        exact hj0 j j1 (by simp only at j2; omega)
    · show up op many p i < up op many p j
      simp only at i3
      rw [up_ne (show i ≠ many by omega)]
      by_cases e : j = many
      · rw [e, up_eq]
        exact (h1 i i1 (by omega)).2.1
      · rw [up_ne e]
        exact h2 i j i1 i2 (by omega)
  · split
    · next hc =>
      have hm := hc.2.1
      obtain ⟨m1, m2, m3⟩ := h1 (many - 1) (by omega) (by omega)
      refine ⟨by simp only; omega, fun j j1 j2 => ?_, fun i j i1 i2 i3 => h2 i j i1 i2 (by simp only at i3; omega), fun q q1 q2 => ?_⟩
      · simp only at j2 ⊢
        obtain ⟨z1, z2, z3⟩ := h1 j j1 (by omega)
        have hlt := h2 j (many - 1) j1 (by omega) (by omega)
        refine ⟨z1, by omega, ?_⟩
        rw [up_ne (by omega), up_ne (by omega), up_ne (by omega)]
        exact z3
      · simp only
        have em : up (up (up po p (-1)) p (op (many - 1))) (op (many - 1)) p (op (many - 1)) = p := up_eq
        have ep : up (up (up po p (-1)) p (op (many - 1))) (op (many - 1)) p p = op (many - 1) := by rw [up_ne (by omega), up_eq]
        by_cases e1 : q = op (many - 1)
        · right
          rw [e1, em, ep]
          exact ⟨ha, by omega, by omega, rfl⟩
        · by_cases e2 : q = p
          · right
            rw [e2, ep, em]
            exact ⟨m1, by omega, by omega, rfl⟩
          · rw [up_ne e1, up_ne e2, up_ne e2]
            rcases h3 q q1 (by omega) with h | ⟨z1, z2, z3, z4⟩
            · left; exact h
            · right
              have hne : po q ≠ op (many - 1) := fun e => by rw [e, m3] at z4; omega
              refine ⟨z1, by omega, z3, ?_⟩
              rw [up_ne hne, up_ne (by omega), up_ne (by omega)]
              exact z4
    · split
      · exact ⟨h0, hj0, h2, hq0⟩
      · exact ⟨h0, hj0, h2, hq0⟩
theorem prs_PIv {K : Int → Int} {a : Int} (ha0 : 0 ≤ a) : ∀ (n : Nat) (p : Int) (q : Int × Int × (Int → Int) × (Int → Int)), a ≤ p → PIv a p q.1 q.2.2.1 q.2.2.2 → PIv a (p + n) (prs K n p q).1 (prs K n p q).2.2.1 (prs K n p q).2.2.2
  | 0, p, q, ha, h => by simpa [prs] using h
  | n + 1, p, q, ha, h => by
    have := prs_PIv (K := K) ha0 n (p + 1) _ (by omega) (prS_PIv (K := K) (loose := q.2.1) ha0 ha h)
    rw [show p + ((n + 1 : Nat) : Int) = p + 1 + (n : Int) by omega]
    exact this
/-- mates of each other -/
def MtI (m : Int → Int) (n : Int) : Prop := ∀ q, 0 ≤ q → q < n → m q = -1 ∨ (0 ≤ m q ∧ m q < n ∧ m q ≠ q ∧ m (m q) = q)
theorem prR_MtI {K : Int → Int} {po op : Int → Int} {n : Int} (h0 : 0 ≤ n) : MtI (prR K 0 n po op).2.2.1 n := by
  have := prs_PIv (K := K) (a := 0) (Int.le_refl 0) (n - 0).toNat 0 (0, 0, po, op) (Int.le_refl 0) ⟨Int.le_refl 0, fun j a b => by simp only at b; omega, fun i j a b c => by simp only at c; omega, fun q a b => by omega⟩
  intro q q1 q2
  have h := this.2.2.2 q q1 (by omega)
  rw [show (0 : Int) + ((n - 0).toNat : Int) = n by omega] at h
  exact h
theorem dpc_e {m : Int → Int} {p t : Int} (ht : ∀ q, 0 ≤ q → q < p → (m q = p ↔ q = t)) : ∀ (k : Nat), (k : Int) ≤ p → dpc m (p - 1) k = dpc m p k + (if 0 ≤ t ∧ t < k then 1 else 0)
  | 0, h => by
    unfold dpc
    rw [if_neg (by omega)]
    rfl
  | k + 1, h => by
    have ih := dpc_e ht k (by omega)
    have hk := ht k (by omega) (by omega)
    unfold dpc
    rw [ih]
    by_cases e : (k : Int) = t
    · have hm := hk.mpr e
      rw [hm, if_neg (by omega), if_pos (by omega), if_neg (by omega), if_pos (by omega)]
      try omega
    · have hm : ¬ m k = p := fun q => e (hk.mp q)
      by_cases c : 0 ≤ t ∧ t < (k : Int)
      · rw [if_pos c, if_pos (show 0 ≤ t ∧ t < ((k + 1 : Nat) : Int) by omega)]
        by_cases c2 : p < m k
        · rw [if_pos c2, if_pos (by omega)]; try omega
        · rw [if_neg c2, if_neg (by omega)]; try omega
      · rw [if_neg c, if_neg (show ¬ (0 ≤ t ∧ t < ((k + 1 : Nat) : Int)) by omega)]
        by_cases c2 : p < m k
        · rw [if_pos c2, if_pos (by omega)]; try omega
        · rw [if_neg c2, if_neg (by omega)]; try omega
theorem dpc_b {m : Int → Int} {n p : Int} (h : MtI m n) (p0 : 0 ≤ p) (p1 : p < n) : dpc m (p - 1) p.toNat = dpc m p p.toNat + (if 0 ≤ m p ∧ m p < p then 1 else 0) := by
  have := dpc_e (m := m) (p := p) (t := m p) (fun q q0 q1 => ⟨fun e => ?_, fun e => ?_⟩) p.toNat (by omega)
  · rw [this, show ((p.toNat : Nat) : Int) = p by omega]
  · rcases h q q0 (by omega) with z | ⟨z1, z2, z3, z4⟩
    · omega
    · rw [e] at z4; exact z4.symm
  · rcases h p p0 p1 with z | ⟨z1, z2, z3, z4⟩
    · omega
    · rw [← e] at z4; exact z4
/-- what holds of a row of the class -/
def RI (K : Int → Int) (rn rl rp : Int) (rs rm rd : Int → Int) : Prop := rn = K 0 ∧ (0 ≤ rn ∧ rn ≤ 20) ∧ (∀ j, 0 ≤ j → j < rn → rs j = K (1 + j) ∧ 0 ≤ rs j ∧ rs j ≤ 11) ∧ (rp = 0 ∨ rp = 1) ∧ (rp = 1 → rl = lo K 0 (K 0) ∧ ∀ q, 0 ≤ q → q < rn → rm q = mt K q ∧ rd q = dp K q)
/-- loose ones stay loose -/
theorem prS_lo {K : Int → Int} {p many loose : Int} {po op : Int → Int} : loose ≤ (prS K p many loose po op).2.1 := by
  unfold prS
  split
  · exact Int.le_refl _
  · split
    · exact Int.le_refl _
    · split
      · simp only; omega
      · exact Int.le_refl _
theorem prs_lo {K : Int → Int} : ∀ (n : Nat) (p : Int) (q : Int × Int × (Int → Int) × (Int → Int)), q.2.1 ≤ (prs K n p q).2.1
  | 0, p, q => Int.le_refl _
  | n + 1, p, q => Int.le_trans prS_lo (prs_lo n (p + 1) _)
theorem lo_pos {K : Int → Int} {n : Nat} {p many loose : Int} {po op : Int → Int} (h0 : 0 ≤ many) (h : 0 < loose) : (prs K n p (many, loose, po, op)).2.1 + (prs K n p (many, loose, po, op)).1 ≠ 0 := by
  have h1 := prs_lo (K := K) n p (many, loose, po, op)
  have h2 := prs_R (K := K) n p (many, loose, po, op) h0 (by simp only; omega)
  simp only at h1
  omega
theorem lo_prs {K : Int → Int} {a b : Int} : lo K a b = (prs K (b - a).toNat a (0, 0, z0, z0)).2.1 + (prs K (b - a).toNat a (0, 0, z0, z0)).1 := rfl
