/-! PURE: readers, rows from the tape, bytes -/
theorem KOK.put {K : Int → Int} {s p : Int} (h : KOK K) (s0 : 0 ≤ s) (s1 : s ≤ 11) (p0 : 0 ≤ p) (p1 : p ≤ K 0) (hn : K 0 < 20) : KOK (putK K s p) := by
  obtain ⟨⟨a1, a2, a3, a4, a5, a6, a7⟩, hT⟩ := h
  have hi : ∀ j, 21 ≤ j → putK K s p j = K j := by
    intro j hj
    unfold putK
    rw [up_ne (by omega), up_ne (by omega), cpy_hi (by omega)]
  have h0 : putK K s p 0 = K 0 + 1 := by
    unfold putK
    rw [up_eq]
  refine ⟨⟨by rw [h0]; omega, ?_, by rw [hi 21 (by omega)]; exact a3, by rw [hi 22 (by omega)]; exact a4, by rw [hi 23 (by omega)]; exact a5, by rw [hi 24 (by omega)]; exact a6, by rw [hi 25 (by omega), hi 24 (by omega)]; exact a7⟩, hT.same (fun j q1 q2 => hi j (by omega))⟩
  intro j j0 j1
  rw [h0] at j1
  unfold putK
  rw [up_ne (by omega)]
  by_cases e : j = p
  · rw [e, up_eq]; omega
  · rw [up_ne (by omega)]
    by_cases c : j < p
    · rw [cpy_lo (by omega)]
      exact a2 j j0 (by omega)
    · rw [cpy_in (by omega) (by omega), show 1 + p + (1 + j - (2 + p)) = 1 + (j - 1) by omega]
      exact a2 (j - 1) (by omega) (by omega)
theorem KOK.cut {K : Int → Int} {p : Int} (h : KOK K) (p0 : 0 ≤ p) (p1 : p < K 0) : KOK (cutK K p) := by
  obtain ⟨⟨a1, a2, a3, a4, a5, a6, a7⟩, hT⟩ := h
  have hi : ∀ j, 21 ≤ j → cutK K p j = K j := by
    intro j hj
    unfold cutK
    rw [up_ne (by omega), cpy_hi (by omega), up_ne (by omega)]
  have h0 : cutK K p 0 = K 0 - 1 := by
    unfold cutK
    rw [up_ne (by omega), cpy_lo (by omega), up_eq]
  refine ⟨⟨by rw [h0]; omega, ?_, by rw [hi 21 (by omega)]; exact a3, by rw [hi 22 (by omega)]; exact a4, by rw [hi 23 (by omega)]; exact a5, by rw [hi 24 (by omega)]; exact a6, by rw [hi 25 (by omega), hi 24 (by omega)]; exact a7⟩, hT.same (fun j q1 q2 => hi j (by omega))⟩
  intro j j0 j1
  rw [h0] at j1
  unfold cutK
  rw [up_ne (by omega)]
  by_cases c : j < p
  · rw [cpy_lo (by omega), up_ne (by omega)]
    exact a2 j j0 (by omega)
  · rw [cpy_in (by omega) (by omega), up_ne (by omega), show 2 + p + (1 + j - (1 + p)) = 1 + (j + 1) by omega]
    exact a2 (j + 1) (by omega) (by omega)
theorem KOK.one {K : Int → Int} {a v : Int} (h : KOK K) (ha : 21 ≤ a ∧ a ≤ 23) (h1 : a = 21 → 0 ≤ v ∧ v ≤ 999) (h2 : a = 22 → 1 ≤ v ∧ v ≤ 9) (h3 : a = 23 → 0 ≤ v ∧ v ≤ 9) : KOK (up K a v) := by
  obtain ⟨⟨a1, a2, a3, a4, a5, a6, a7⟩, hT⟩ := h
  refine ⟨⟨by rw [up_ne (by omega)]; exact a1, ?_, ?_, ?_, ?_, by rw [up_ne (by omega)]; exact a6, by rw [up_ne (by omega), up_ne (by omega)]; exact a7⟩, hT.same (fun j q1 q2 => up_ne (by omega))⟩
  · intro j j0 j1
    rw [up_ne (by omega)] at j1
    rw [up_ne (by omega)]
    exact a2 j j0 j1
  · by_cases e : a = 21
    · rw [e, up_eq]; exact h1 e
    · rw [up_ne (by omega)]; exact a3
  · by_cases e : a = 22
    · rw [e, up_eq]; exact h2 e
    · rw [up_ne (by omega)]; exact a4
  · by_cases e : a = 23
    · rw [e, up_eq]; exact h3 e
    · rw [up_ne (by omega)]; exact a5
theorem KOK.turn {K : Int → Int} {p s : Int} (h : KOK K) (p0 : 0 ≤ p) (p1 : p < K 0) (s0 : 0 ≤ s) (s1 : s ≤ 11) : KOK (up K (1 + p) s) := by
  obtain ⟨⟨a1, a2, a3, a4, a5, a6, a7⟩, hT⟩ := h
  refine ⟨⟨by rw [up_ne (by omega)]; exact a1, ?_, by rw [up_ne (by omega)]; exact a3, by rw [up_ne (by omega)]; exact a4, by rw [up_ne (by omega)]; exact a5, by rw [up_ne (by omega)]; exact a6, by rw [up_ne (by omega), up_ne (by omega)]; exact a7⟩, hT.same (fun j q1 q2 => up_ne (by omega))⟩
  intro j j0 j1
  rw [up_ne (by omega)] at j1
  by_cases e : j = p
  · rw [e, up_eq]; omega
  · rw [up_ne (by omega)]
    exact a2 j j0 j1
def dw (l : Int) : Int := (1103 * l + 12345).tmod 1000003
theorem dw_R {l : Int} (h : 0 ≤ l) : 0 ≤ dw l ∧ dw l ≤ 1000003 := by
  have h1 := Int.tmod_nonneg 1000003 (show 0 ≤ 1103 * l + 12345 by omega)
  have h2 := Int.tmod_lt_of_pos (1103 * l + 12345) (show (0 : Int) < 1000003 by decide)
  unfold dw
  omega
theorem tm_R {l k : Int} (h : 0 ≤ l) (hk : 0 < k) : 0 ≤ l.tmod k ∧ l.tmod k < k := ⟨Int.tmod_nonneg k h, Int.tmod_lt_of_pos l hk⟩
/-- what a reader does to the row, ahead of the page -/
def rdA (K : Int → Int) (l : Int) : (Int → Int) × Int :=
  if (dw l).tmod 3 = 0 then ((if K 0 < 20 ∧ ¬ tl K 4 ((dw (dw l)).tmod 6) ((dw (dw (dw l))).tmod (K 0 + 1)) 0 = 1 then putK K ((dw (dw l)).tmod 6) ((dw (dw (dw l))).tmod (K 0 + 1)) else K), dw (dw (dw l)))
  else if (dw l).tmod 3 = 1 ∧ 0 < K 0 then (cutK K ((dw (dw l)).tmod (K 0)), dw (dw l))
  else (K, dw l)
theorem rdA_def {K : Int → Int} {l : Int} : rdA K l = (if (dw l).tmod 3 = 0 then ((if K 0 < 20 ∧ ¬ tl K 4 ((dw (dw l)).tmod 6) ((dw (dw (dw l))).tmod (K 0 + 1)) 0 = 1 then putK K ((dw (dw l)).tmod 6) ((dw (dw (dw l))).tmod (K 0 + 1)) else K), dw (dw (dw l)))
  else if (dw l).tmod 3 = 1 ∧ 0 < K 0 then (cutK K ((dw (dw l)).tmod (K 0)), dw (dw l))
  else (K, dw l)) := rfl
theorem rdA_ok {K : Int → Int} {l : Int} (h : KOK K) (l0 : 0 ≤ l) : KOK (rdA K l).1 ∧ (0 ≤ (rdA K l).2 ∧ (rdA K l).2 ≤ 1000003) ∧ ∀ j, 21 ≤ j ∨ j < 0 → (rdA K l).1 j = K j := by
  have hn := h.1.1
  have d1 := dw_R l0
  have d2 := dw_R d1.1
  have d3 := dw_R d2.1
  unfold rdA
  split
  · have t1 := tm_R (k := 6) d2.1 (by omega)
    have t2 := tm_R (k := K 0 + 1) d3.1 (by omega)
    split
    · next c => exact ⟨h.put (by omega) (by omega) (by omega) (by omega) c.1, d3, fun j hj => by show putK K _ _ j = _; unfold putK; rw [up_ne (by omega), up_ne (by omega)]; rcases hj with hj | hj; exact cpy_hi (by omega); exact cpy_lo (by omega)⟩
    · exact ⟨h, d3, fun _ _ => rfl⟩
  · split
    · next c =>
      have t1 := tm_R (k := K 0) d2.1 (by omega)
      exact ⟨h.cut t1.1 t1.2, d2, fun j hj => by show cutK K _ j = _; unfold cutK; rw [up_ne (by omega)]; rcases hj with hj | hj; (rw [cpy_hi (by omega), up_ne (by omega)]); (rw [cpy_lo (by omega), up_ne (by omega)])⟩
    · exact ⟨h, d1, fun _ _ => rfl⟩
def rdK (K : Int → Int) (l : Int) : Int → Int := up (rdA K l).1 21 ((rdA K l).1 21 + 1)
theorem rdK_ok {K : Int → Int} {l : Int} (h : KOK K) (l0 : 0 ≤ l) (hp : K 21 < 999) : KOK (rdK K l) ∧ ∀ j, 22 ≤ j ∨ j < 0 → rdK K l j = K j := by
  obtain ⟨a1, a2, a3⟩ := rdA_ok h l0
  have h21 := h.1.2.2.1
  unfold rdK
  refine ⟨a1.one (by omega) (fun _ => by rw [a3 21 (by omega)]; omega) (fun q => by omega) (fun q => by omega), fun j hj => ?_⟩
  rw [up_ne (by omega), a3 j (by omega)]
def rdF : Nat → (Int → Int) → Int → Int → (Int → Int) × Int × Int
  | 0, K, l, al => (K, l, al)
  | m + 1, K, l, al => if K 21 < 999 then rdF m (rdK K l) (rdA K l).2 (al + (if lo (rdK K l) 0 (rdK K l 0) = 0 then 1 else 0)) else (K, l, al)
theorem back22 {K K' z : Int → Int} (h : ∀ j, 22 ≤ j → K' j = K j) (h0 : ∀ j, j < 0 → K' j = K j) : cpy (cpy K z 0 (22 * 0) 22) K' (22 * 0) 0 22 = K := by
  funext k
  by_cases c : 0 ≤ k ∧ k < 22
  · rw [cpy_in (by omega) (by omega), cpy_in (by omega) (by omega)]
    congr 1
    omega
  · by_cases c2 : k < 0
    · rw [cpy_lo (by omega), h0 k c2]
    · rw [cpy_hi (by omega), h k (by omega)]
/-- rows from the tape -/
def rwK (K : Int → Int) (s : Int) : Int → Int := up (up K (1 + K 0) s) 0 (K 0 + 1)
def rwF (t : Int → Int) : Nat → Int → (Int → Int) → Int → Int → (Int → Int) × Int × Int
  | 0, _, K, n, bl => (K, n, bl)
  | m + 1, k, K, n, bl => if K 0 = 20 ∨ ¬ (0 ≤ t k ∧ t k ≤ 11) then rwF t m (k + 1) K n (bl + 1) else rwF t m (k + 1) (rwK K (t k)) (n + 1) bl
theorem rwK_ok {K : Int → Int} {s : Int} (h : KOK K) (h1 : K 0 ≠ 20) (s0 : 0 ≤ s) (s1 : s ≤ 11) : KOK (rwK K s) := by
  have e : rwK K s = putK K s (K 0) := by
    unfold rwK putK
    rw [show K 0 - K 0 = 0 by omega]
    congr 2
    funext j
    unfold cpy
    rw [if_neg (by omega)]
  rw [e]
  have hn := h.1.1
  exact h.put s0 s1 hn.1 (by omega) (by omega)
/-- bytes of a number -/
def bt (a k : Int) : Int := ((ii a >>> (ii (24 - 8 * k) &&& 31)).toInt8).toInt
theorem bt_ii (a k : Int) : ii (bt a k) = (ii a >>> (ii (24 - 8 * k) &&& 31)).toInt8.toInt32 := by
  unfold bt ii
  rw [← Int8.toInt_toInt32, Int32.ofInt_toInt]
theorem bt_R (a k : Int) : -128 ≤ bt a k ∧ bt a k ≤ 127 := by
  unfold bt
  have h1 := Int8.le_toInt ((ii a >>> (ii (24 - 8 * k) &&& 31)).toInt8)
  have h2 := Int8.toInt_le ((ii a >>> (ii (24 - 8 * k) &&& 31)).toInt8)
  rw [show Int8.maxValue.toInt = 127 by decide] at h2
  rw [show (-2 ^ 7 : Int) = -128 by decide] at h1
  exact ⟨h1, h2⟩
def fdF (y : Int → Int) (tp : Int) : Nat → (Int → Int) → (Int → Int)
  | 0, t => t
  | k + 1, t => up (fdF y tp k t) (tp + k) (bt (y ((k : Int).tdiv 4)) ((k : Int).tmod 4))
