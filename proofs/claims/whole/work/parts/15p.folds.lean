/-! PURE: folds: people said, the longest run, what fits -/
abbrev bq (people s : Int) : Prop := ((ii people >>> (ii (s - 6) &&& 31)) &&& ii 1) = ii 1
def sdF (K m : Int → Int) : Nat → Int32
  | 0 => ii 0
  | k + 1 => sdF K m k ||| (if 6 ≤ K (1 + (k : Int)) ∧ bq 63 (K (1 + (k : Int))) ∧ dpc m (k : Int) k = 0 then ii 1 <<< (ii (K (1 + (k : Int)) - 6) &&& 31) else ii 0)
theorem sdF_s {K m : Int → Int} {p : Int} (h : 0 ≤ p) : sdF K m (p + 1).toNat = sdF K m p.toNat ||| (if 6 ≤ K (1 + p) ∧ bq 63 (K (1 + p)) ∧ dpc m p p.toNat = 0 then ii 1 <<< (ii (K (1 + p) - 6) &&& 31) else ii 0) := by
  have e : (p + 1).toNat = p.toNat + 1 := by omega
  rw [e]
  show sdF K m p.toNat ||| _ = _
  rw [Int.toNat_of_nonneg h]
theorem sdF_p {K m : Int → Int} {p : Int} (h : 0 ≤ p) (c : 6 ≤ K (1 + p) ∧ bq 63 (K (1 + p)) ∧ dpc m p p.toNat = 0) : sdF K m (p + 1).toNat = sdF K m p.toNat ||| (ii 1 <<< (ii (K (1 + p) - 6) &&& 31)) := by rw [sdF_s h, if_pos c]
theorem sdF_n {K m : Int → Int} {p : Int} (h : 0 ≤ p) (c : ¬ (6 ≤ K (1 + p) ∧ bq 63 (K (1 + p)) ∧ dpc m p p.toNat = 0)) : sdF K m (p + 1).toNat = sdF K m p.toNat ||| ii 0 := by rw [sdF_s h, if_neg c]
theorem sdF_congr {K m m' : Int → Int} : ∀ (k : Nat), (∀ q : Int, 0 ≤ q → q < k → m q = m' q) → sdF K m k = sdF K m' k
  | 0, _ => rfl
  | k + 1, h => by
    unfold sdF
    rw [sdF_congr k (fun q h1 h2 => h q h1 (by omega)), dpc_congr k (fun q h1 h2 => h q h1 (by omega))]
def sd (K : Int → Int) : Int32 := sdF K (mt K) (K 0).toNat
theorem sd_eq {K : Int → Int} (po op : Int → Int) (h : 0 ≤ K 0) : sdF K (prR K 0 (K 0) po op).2.2.1 (K 0).toNat = sd K := sdF_congr _ (fun q h1 h2 => mt_eq po op h1 (by omega))
def rnI (K : Int → Int) (a : Int) : Nat → Int → Int × Int → Int × Int
  | 0, _, q => q
  | k + 1, b, q => rnI K a k (b + 1) (if q.1 < b - a ∧ lo K a b = 0 then (b - a, a) else q)
def rnO (K : Int → Int) : Nat → Int → Int × Int → Int × Int
  | 0, _, q => q
  | k + 1, a, q => rnO K k (a + 1) (rnI K a (K 0 + 1 - (a + 1)).toNat (a + 1) q)
def rn (K : Int → Int) : Int × Int := rnO K (K 0 - 0).toNat 0 (0, -1)
theorem rnI_R {K : Int → Int} {a : Int} (ha : 0 ≤ a) (ha2 : a ≤ 20) : ∀ (k : Nat) (b : Int) (q : Int × Int), 0 ≤ q.1 → q.1 ≤ 20 → -1 ≤ q.2 → q.2 ≤ 20 → b + k ≤ 21 → 0 ≤ (rnI K a k b q).1 ∧ (rnI K a k b q).1 ≤ 20 ∧ -1 ≤ (rnI K a k b q).2 ∧ (rnI K a k b q).2 ≤ 20
  | 0, b, q, h1, h2, h3, h4, h5 => ⟨h1, h2, h3, h4⟩
  | k + 1, b, q, h1, h2, h3, h4, h5 => by
    unfold rnI
    split
    · next c => exact rnI_R ha ha2 k (b + 1) _ (by simp; omega) (by simp; omega) (by simp; omega) (by simp; omega) (by omega)
    · exact rnI_R ha ha2 k (b + 1) _ h1 h2 h3 h4 (by omega)
theorem up_up {x : Int → Int} {a v w : Int} : up (up x a v) a w = up x a w := by
  funext j
  unfold up
  by_cases h : j = a
  · rw [if_pos h, if_pos h]
  · rw [if_neg h, if_neg h, if_neg h]
theorem up_self {x : Int → Int} {a : Int} : up x a (x a) = x := by
  funext j
  unfold up
  by_cases h : j = a
  · rw [if_pos h, h]
  · rw [if_neg h]
def ftF (K : Int → Int) (p : Int) : Nat → Int32
  | 0 => ii 0
  | k + 1 => ftF K p k ||| (if lo (up K (1 + p) (k : Int)) 0 (K 0) = 0 then ii 1 <<< (ii (k : Int) &&& 31) else ii 0)
theorem ftF_s {K : Int → Int} {p s : Int} (h : 0 ≤ s) : ftF K p (s + 1).toNat = ftF K p s.toNat ||| (if lo (up K (1 + p) s) 0 (K 0) = 0 then ii 1 <<< (ii s &&& 31) else ii 0) := by
  have e : (s + 1).toNat = s.toNat + 1 := by omega
  rw [e]
  show ftF K p s.toNat ||| _ = _
  rw [Int.toNat_of_nonneg h]
theorem ftF_p {K : Int → Int} {p s : Int} (h : 0 ≤ s) (c : lo (up K (1 + p) s) 0 (K 0) = 0) : ftF K p (s + 1).toNat = ftF K p s.toNat ||| (ii 1 <<< (ii s &&& 31)) := by rw [ftF_s h, if_pos c]
theorem ftF_n {K : Int → Int} {p s : Int} (h : 0 ≤ s) (c : ¬ lo (up K (1 + p) s) 0 (K 0) = 0) : ftF K p (s + 1).toNat = ftF K p s.toNat ||| ii 0 := by rw [ftF_s h, if_neg c]
