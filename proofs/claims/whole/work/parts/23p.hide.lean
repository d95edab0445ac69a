/-! PURE: hiding, likelihood, the row of a number, the number of a row -/
abbrev sai (K : Int → Int) (people p : Int) : Prop := 6 ≤ K (1 + p) ∧ bq people (K (1 + p)) ∧ dp K p = 0
abbrev hAl (K : Int → Int) (people a b : Int) : Prop := ∀ k : Nat, k < (K 0).toNat → ((a ≤ (k : Int) ∧ (k : Int) < b) ∨ ¬ sai K people k)
def hdU (K : Int → Int) (kind a b : Int) (y : Int → Int) : Int → Int := if tl K 4 kind a 0 = 1 ∨ tl K 4 (3 + kind) b 0 = 1 then y else if y 0 ≤ tl K 1 kind a 1 + tl K 1 (3 + kind) b 1 then y else up (up (up (up y 0 (tl K 1 kind a 1 + tl K 1 (3 + kind) b 1)) 1 kind) 2 a) 3 b
def hd3 (K : Int → Int) (people kind a : Int) : Nat → Int → (Int → Int) → (Int → Int)
  | 0, _, y => y
  | n + 1, b, y => hd3 K people kind a n (b + 1) (if hAl K people a b ∧ lo K a b = 0 then hdU K kind a b y else y)
def hd2 (K : Int → Int) (people kind : Int) : Nat → Int → (Int → Int) → (Int → Int)
  | 0, _, y => y
  | n + 1, a, y => hd2 K people kind n (a + 1) (hd3 K people kind a (K 0 + 1 - (a + 1)).toNat (a + 1) y)
def hd1 (K : Int → Int) (people : Int) : Nat → Int → (Int → Int) → (Int → Int)
  | 0, _, y => y
  | n + 1, kind, y => hd1 K people n (kind + 1) (hd2 K people kind (K 0 - 0).toNat 0 y)
def hdF (K : Int → Int) (people : Int) (y : Int → Int) : Int → Int := hd1 K people (3 - 0 : Int).toNat 0 (up y 0 1000000)
abbrev yR (y : Int → Int) : Prop := 0 ≤ y 0 ∧ y 0 ≤ 1000000
theorem hdU_R {K : Int → Int} {kind a b : Int} {y : Int → Int} (h : KOK K) (k0 : 0 ≤ kind) (k1 : kind < 3) (a0 : 0 ≤ a) (a1 : a ≤ K 0) (b0 : 0 ≤ b) (b1 : b ≤ K 0) (hy : yR y) : yR (hdU K kind a b y) := by
  have hn := h.1.1.2
  have i1 := h.hasR (head := 1) (s := kind) (p := a) (wo := 1) (by omega) (by omega) (by omega) (by omega) (by omega)
  have i2 := h.hasR (head := 1) (s := 3 + kind) (p := b) (wo := 1) (by omega) (by omega) (by omega) (by omega) (by omega)
  unfold hdU
  split
  · exact hy
  · split
    · exact hy
    · unfold yR
      rw [up_ne (by decide), up_ne (by decide), up_ne (by decide), up_eq]
      omega
theorem cA_div {K : Int → Int} {s p : Int} (h : KOK K) (s0 : 0 ≤ s) (s1 : s < 6) (p0 : 0 ≤ p) (p1 : p ≤ K 0) (hn : ¬ cA K s p = 1000000) : ¬ tl K 4 s p 0 = 1 ∧ (cA K s p).tdiv 64 = tl K 1 s p 1 := by
  have hn1 := h.1.1.2
  have i1 := h.hasR (head := 1) (s := s) (p := p) (wo := 1) (by omega) (by omega) (by omega) (by omega) (by omega)
  unfold cA at hn ⊢
  by_cases c : tl K 4 s p 0 = 1
  · rw [if_pos c] at hn
    exact absurd rfl hn
  · rw [if_neg c, Int.tdiv_eq_ediv_of_nonneg (by omega)]
    exact ⟨c, by omega⟩
theorem cA_bar {K : Int → Int} {s p : Int} (h : KOK K) (s0 : 0 ≤ s) (s1 : s < 6) (p0 : 0 ≤ p) (p1 : p ≤ K 0) (hn : cA K s p = 1000000) : tl K 4 s p 0 = 1 := by
  have hn1 := h.1.1.2
  have i1 := h.hasR (head := 1) (s := s) (p := p) (wo := 1) (by omega) (by omega) (by omega) (by omega) (by omega)
  unfold cA at hn
  by_cases c : tl K 4 s p 0 = 1
  · exact c
  · rw [if_neg c] at hn
    omega
/-- likelihood -/
def lk : Nat → Int → Int
  | 0, o => if o = 0 then 1000000000000 else 0
  | s + 1, o => (if 1 ≤ o then (lk s (o - 1) * 3).tdiv 6 else 0) + (if 0 ≤ o then (lk s (o + 1)).tdiv 6 else 0)
theorem lk_R : ∀ (s : Nat) (o : Int), 0 ≤ lk s o ∧ lk s o ≤ 1000000000000
  | 0, o => by
    unfold lk
    split <;> omega
  | s + 1, o => by
    have h1 := lk_R s (o - 1)
    have h2 := lk_R s (o + 1)
    unfold lk
    rw [Int.tdiv_eq_ediv_of_nonneg (by omega), Int.tdiv_eq_ediv_of_nonneg (by omega)]
    split <;> split <;> omega
theorem lk_hi : ∀ (s : Nat) (o : Int), (s : Int) < o → lk s o = 0
  | 0, o, h => by
    unfold lk
    rw [if_neg (by omega)]
  | s + 1, o, h => by
    unfold lk
    rw [lk_hi s (o - 1) (by omega), lk_hi s (o + 1) (by omega)]
    split <;> split <;> rfl
def lkp (s : Nat) (o j : Int) : Int := (if 1 ≤ j ∧ j - 1 < o then (lk s (j - 1) * 3).tdiv 6 else 0) + (if j + 1 < o then (lk s (j + 1)).tdiv 6 else 0)
theorem lkp_0 {s : Nat} {j : Int} (h : 0 ≤ j) : lkp s 0 j = 0 := by
  unfold lkp
  rw [if_neg (by omega), if_neg (by omega)]
  rfl
theorem lkp_end {s : Nat} {j : Int} (h : 0 ≤ j) : lkp s (s + 1) j = lk (s + 1) j := by
  show lkp s (s + 1) j = (if 1 ≤ j then (lk s (j - 1) * 3).tdiv 6 else 0) + (if 0 ≤ j then (lk s (j + 1)).tdiv 6 else 0)
  unfold lkp
  rw [if_pos h]
  by_cases c1 : 1 ≤ j
  · rw [if_pos c1]
    by_cases c2 : j - 1 < s + 1
    · rw [if_pos ⟨c1, c2⟩]
      by_cases c3 : j + 1 < s + 1
      · rw [if_pos c3]
      · rw [if_neg c3, lk_hi s (j + 1) (by omega)]
        rfl
    · rw [if_neg (by omega), lk_hi s (j - 1) (by omega), lk_hi s (j + 1) (by omega), if_neg (by omega)]
      rfl
  · rw [if_neg c1, if_neg (by omega)]
    by_cases c3 : j + 1 < s + 1
    · rw [if_pos c3]
    · rw [if_neg c3, lk_hi s (j + 1) (by omega)]
      rfl
theorem lkp_s {s : Nat} {o j : Int} (o0 : 0 ≤ o) (h : 0 ≤ j) : lkp s (o + 1) j = if j = o + 1 then lkp s o j + (lk s o * 3).tdiv 6 else if j = o - 1 then lkp s o j + (lk s o).tdiv 6 else lkp s o j := by
  unfold lkp
  by_cases c1 : j = o + 1
  · subst c1
    rw [if_pos rfl, if_pos (by omega), if_neg (by omega), if_neg (by omega), if_neg (by omega), show o + 1 - 1 = o by omega]
    omega
  · rw [if_neg c1]
    by_cases c2 : j = o - 1
    · subst c2
      rw [if_pos rfl, show o - 1 + 1 = o by omega, if_pos (show o < o + 1 by omega), if_neg (show ¬ o < o by omega)]
      by_cases c3 : 1 ≤ o - 1
      · rw [if_pos (by omega), if_pos (by omega)]
        omega
      · rw [if_neg (by omega), if_neg (by omega)]
        omega
    · rw [if_neg c2]
      by_cases c3 : 1 ≤ j ∧ j - 1 < o
      · rw [if_pos c3, if_pos (by omega)]
        by_cases c4 : j + 1 < o
        · rw [if_pos c4, if_pos (by omega)]
        · rw [if_neg c4, if_neg (by omega)]
      · rw [if_neg c3, if_neg (by omega)]
        by_cases c4 : j + 1 < o
        · rw [if_pos c4, if_pos (by omega)]
        · rw [if_neg c4, if_neg (by omega)]
/-- the row of a number -/
def nsE (deep n k o : Int) : Int := if o < deep then Wd deep (2 * n - k - 1) (o + 1) else 0
def nsF (deep n : Int) : Nat → Int → Int → Int → (Int → Int) → Int → Int
  | 0, _, _, _, _, sg => sg
  | j + 1, k, rest, o, op, sg => if rest < 3 * nsE deep n k o then nsF deep n j (k + 1) (rest.tmod (nsE deep n k o)) (o + 1) (up op o (rest.tdiv (nsE deep n k o))) (rest.tdiv (nsE deep n k o)) else nsF deep n j (k + 1) (rest - 3 * nsE deep n k o) (o - 1) op (3 + op (o - 1))
theorem ns_1 {deep n k o rest : Int} (hd : 0 ≤ deep) (hk : k < 2 * n) (o0 : 0 ≤ o) (o1 : o ≤ deep) (r0 : 0 ≤ rest) (r1 : rest < Wd deep (2 * n - k) o) (c : rest < 3 * nsE deep n k o) : o < deep ∧ 0 < nsE deep n k o ∧ nsE deep n k o = Wd deep (2 * n - (k + 1)) (o + 1) ∧ 0 ≤ rest.tdiv (nsE deep n k o) ∧ rest.tdiv (nsE deep n k o) ≤ 2 ∧ 0 ≤ rest.tmod (nsE deep n k o) ∧ rest.tmod (nsE deep n k o) < Wd deep (2 * n - (k + 1)) (o + 1) := by
  have hpos : 0 < nsE deep n k o := by omega
  have ho : o < deep := by
    by_cases q : o < deep
    · exact q
    · unfold nsE at hpos
      rw [if_neg q] at hpos
      omega
  have e : nsE deep n k o = Wd deep (2 * n - (k + 1)) (o + 1) := by
    unfold nsE
    rw [if_pos ho]
    congr 1
    omega
  refine ⟨ho, hpos, e, Int.tdiv_nonneg r0 (by omega), ?_, Int.tmod_nonneg _ r0, ?_⟩
  · rw [Int.tdiv_eq_ediv_of_nonneg r0]
    have := Int.ediv_lt_of_lt_mul hpos c
    omega
  · rw [← e]
    exact Int.tmod_lt_of_pos _ hpos
theorem ns_2 {deep n k o rest : Int} (hd : 0 < deep) (hk : k < 2 * n) (o0 : 0 ≤ o) (o1 : o ≤ deep) (r0 : 0 ≤ rest) (r1 : rest < Wd deep (2 * n - k) o) (c : ¬ rest < 3 * nsE deep n k o) : 0 < o ∧ 0 ≤ rest - 3 * nsE deep n k o ∧ rest - 3 * nsE deep n k o < Wd deep (2 * n - (k + 1)) (o - 1) := by
  rw [Wd_s (by omega), if_neg (by omega)] at r1
  have e2 : (if o < deep then 3 * Wd deep (2 * n - k - 1) (o + 1) else 0) = 3 * nsE deep n k o := by
    unfold nsE
    split <;> rfl
  rw [e2] at r1
  by_cases ho : 0 < o
  · rw [if_pos ho] at r1
    refine ⟨ho, by omega, ?_⟩
    rw [show 2 * n - (k + 1) = 2 * n - k - 1 by omega]
    omega
  · rw [if_neg ho] at r1
    omega
/-- what stood in the row of open ones doesn't matter -/
theorem nsF_op {deep n : Int} (hd : 0 < deep) : ∀ (j : Nat) (k rest o : Int) (op op' : Int → Int) (sg : Int), k + j ≤ 2 * n → 0 ≤ o → o ≤ deep → 0 ≤ rest → rest < Wd deep (2 * n - k) o → (∀ i, 0 ≤ i → i < o → op i = op' i) → nsF deep n j k rest o op sg = nsF deep n j k rest o op' sg
  | 0, k, rest, o, op, op', sg, h1, h2, h3, h4, h5, h6 => rfl
  | j + 1, k, rest, o, op, op', sg, h1, h2, h3, h4, h5, h6 => by
    unfold nsF
    by_cases c : rest < 3 * nsE deep n k o
    · rw [if_pos c, if_pos c]
      obtain ⟨a1, a2, a3, a4, a5, a6, a7⟩ := ns_1 (by omega) (by omega) h2 h3 h4 h5 c
      refine nsF_op hd j _ _ _ _ _ _ (by omega) (by omega) (by omega) a6 a7 (fun i i0 i1 => ?_)
      by_cases e : i = o
      · rw [e, up_eq, up_eq]
      · rw [up_ne e, up_ne e]
        exact h6 i i0 (by omega)
    · rw [if_neg c, if_neg c]
      obtain ⟨a1, a2, a3⟩ := ns_2 hd (by omega) h2 h3 h4 h5 c
      rw [h6 (o - 1) (by omega) (by omega)]
      exact nsF_op hd j _ _ _ _ _ _ (by omega) (by omega) (by omega) a2 a3 (fun i i0 i1 => h6 i i0 (by omega))
def nsR (K : Int → Int) (n k i : Int) : Int := if Wd (K 22) (2 * n) 0 ≤ k then -1 else nsF (K 22) n (i + 1 - 0).toNat 0 k 0 z0 (-1)
/-- the number of a row -/
abbrev hrk (K : Int → Int) : Prop := lo K 0 (K 0) = 0 ∧ ∀ k : Nat, k < (K 0).toNat → K (1 + k) < 6 ∧ (3 ≤ K (1 + k) ∨ dp K k < K 22)
def rkE (K : Int → Int) (p o : Int) : Int := if o < K 22 then Wd (K 22) (K 0 - p - 1) (o + 1) else 0
def rkF (K : Int → Int) : Nat → Int → Int → Int → Int
  | 0, _, _, acc => acc
  | j + 1, p, o, acc => rkF K j (p + 1) (o + (if K (1 + p) < 3 then 1 else -1)) (acc + rkE K p o * (if K (1 + p) < 3 then K (1 + p) else 3))
def rkR (K : Int → Int) : Int := if hrk K then rkF K (K 0 - 0).toNat 0 0 0 else -1
