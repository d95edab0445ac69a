/-! PURE: how many whole rows go on -/
def W_ (dp : Int) : Nat → Int → Int
  | 0, o => if o = 0 then 1 else 0
  | l + 1, o => if o < 0 ∨ dp < o then 0 else (if 0 < o then W_ dp l (o - 1) else 0) + (if o < dp then 3 * W_ dp l (o + 1) else 0)
def Wd (dp l o : Int) : Int := W_ dp l.toNat o
theorem Wd_0 {dp o : Int} : Wd dp 0 o = if o = 0 then 1 else 0 := rfl
theorem Wd_s {dp l o : Int} (h : 1 ≤ l) : Wd dp l o = if o < 0 ∨ dp < o then 0 else (if 0 < o then Wd dp (l - 1) (o - 1) else 0) + (if o < dp then 3 * Wd dp (l - 1) (o + 1) else 0) := by
  unfold Wd
  have e : l.toNat = (l - 1).toNat + 1 := by omega
  rw [e]
  rfl
theorem W_R {dp : Int} : ∀ (l : Nat) (o : Int), 0 ≤ W_ dp l o ∧ W_ dp l o ≤ 4 ^ l
  | 0, o => by
    unfold W_
    split <;> simp
  | l + 1, o => by
    obtain ⟨a1, a2⟩ := W_R (dp := dp) l (o - 1)
    obtain ⟨b1, b2⟩ := W_R (dp := dp) l (o + 1)
    have h4 : (4 : Int) ^ (l + 1) = 4 * 4 ^ l := by rw [Int.pow_succ, Int.mul_comm]
    have hp : (0 : Int) ≤ 4 ^ l := Int.le_trans a1 a2
    unfold W_
    rw [h4]
    split
    · omega
    · split <;> split <;> omega
theorem Wd_R {dp l o : Int} (h : l ≤ 24) : 0 ≤ Wd dp l o ∧ Wd dp l o ≤ 281474976710656 := by
  obtain ⟨a1, a2⟩ := W_R (dp := dp) l.toNat o
  refine ⟨a1, Int.le_trans a2 ?_⟩
  have h1 : l.toNat ≤ 24 := by omega
  have h2 : (4 : Int) ^ l.toNat ≤ 4 ^ 24 := by
    have := Nat.pow_le_pow_right (show 0 < 4 by decide) h1
    have h3 : ((4 ^ l.toNat : Nat) : Int) ≤ ((4 ^ 24 : Nat) : Int) := Int.ofNat_le.mpr this
    simpa using h3
  exact Int.le_trans h2 (by decide)
theorem Wd_out {dp l o : Int} (h0 : 0 ≤ l) (h : o < 0 ∨ dp < o) (hd : 0 ≤ dp) : Wd dp l o = 0 := by
  by_cases hl : l = 0
  · subst hl
    rw [Wd_0, if_neg (by omega)]
  · rw [Wd_s (by omega), if_pos h]
