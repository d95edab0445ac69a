/-! PURE: the cheapest pair that hides: both orders end at the least -/
abbrev hT4 : Type := Int × Int × Int × Int
def lxl (c k a b c' k' a' b' : Int) : Prop := c < c' ∨ (c = c' ∧ (k < k' ∨ (k = k' ∧ (a < a' ∨ (a = a' ∧ b ≤ b')))))
def Bst (ok : Int → Int → Int → Prop) (co : Int → Int → Int → Int) (P : Int → Int → Int → Prop) (big : Int) (x : hT4) : Prop :=
  (x.1 = big ∧ ∀ k a b, P k a b → ¬ ok k a b) ∨ (x.1 < big ∧ x.1 = co x.2.1 x.2.2.1 x.2.2.2 ∧ P x.2.1 x.2.2.1 x.2.2.2 ∧ ok x.2.1 x.2.2.1 x.2.2.2 ∧ ∀ k a b, P k a b → ok k a b → lxl x.1 x.2.1 x.2.2.1 x.2.2.2 (co k a b) k a b)
section BST
variable {ok : Int → Int → Int → Prop} {co : Int → Int → Int → Int} {P P' : Int → Int → Int → Prop} {big : Int} {x : hT4} {k a b : Int}
theorem Bst.no (h : Bst ok co P big x) (hs : ∀ k a b, P k a b → P' k a b) (hn : ∀ k a b, P' k a b → P k a b ∨ ¬ ok k a b) : Bst ok co P' big x := by
  rcases h with ⟨h1, h2⟩ | ⟨h1, h2, h3, h4, h5⟩
  · refine Or.inl ⟨h1, fun k' a' b' hp => ?_⟩
    rcases hn k' a' b' hp with q | q
    · exact h2 _ _ _ q
    · exact q
  · refine Or.inr ⟨h1, h2, hs _ _ _ h3, h4, fun k' a' b' hp ho => ?_⟩
    rcases hn k' a' b' hp with q | q
    · exact h5 _ _ _ q ho
    · exact absurd ho q
theorem Bst.le (h : Bst ok co P big x) : x.1 ≤ big := by
  rcases h with ⟨h1, -⟩ | ⟨h1, -⟩ <;> omega
theorem Bst.take (h : Bst ok co P big x) (hk : ok k a b) (hc : co k a b < big) (hl : co k a b < x.1 ∨ (co k a b = x.1 ∧ k < x.2.1)) (e : ∀ k' a' b', P' k' a' b' ↔ P k' a' b' ∨ (k' = k ∧ a' = a ∧ b' = b)) : Bst ok co P' big (co k a b, k, a, b) := by
  refine Or.inr ⟨hc, rfl, (e _ _ _).mpr (Or.inr ⟨rfl, rfl, rfl⟩), hk, fun k' a' b' hp ho => ?_⟩
  rcases (e k' a' b').mp hp with q | ⟨rfl, rfl, rfl⟩
  · rcases h with ⟨h1, h2⟩ | ⟨h1, h2, h3, h4, h5⟩
    · exact absurd ho (h2 _ _ _ q)
    · have h6 := h5 _ _ _ q ho
      unfold lxl at h6 ⊢
      dsimp only
      omega
  · unfold lxl
    dsimp only
    omega
theorem Bst.keep (h : Bst ok co P big x) (hc : co k a b < big) (hl : ¬ co k a b < x.1) (hq : P x.2.1 x.2.2.1 x.2.2.2 → co k a b = x.1 → x.2.1 < k ∨ (x.2.1 = k ∧ (x.2.2.1 < a ∨ (x.2.2.1 = a ∧ x.2.2.2 ≤ b)))) (e : ∀ k' a' b', P' k' a' b' ↔ P k' a' b' ∨ (k' = k ∧ a' = a ∧ b' = b)) : Bst ok co P' big x := by
  rcases h with ⟨h1, h2⟩ | ⟨h1, h2, h3, h4, h5⟩
  · omega
  · refine Or.inr ⟨h1, h2, (e _ _ _).mpr (Or.inl h3), h4, fun k' a' b' hp ho => ?_⟩
    rcases (e k' a' b').mp hp with q | ⟨rfl, rfl, rfl⟩
    · exact h5 _ _ _ q ho
    · have h6 := hq h3
      unfold lxl
      omega
theorem Bst.uniq {big2 : Int} {x2 : hT4} (h : Bst ok co P big x) (h2 : Bst ok co P' big2 x2) (e : ∀ k a b, ok k a b → (P k a b ↔ P' k a b)) : (x.1 < big ∧ x2.1 < big2 ∧ x = x2) ∨ (x.1 = big ∧ x2.1 = big2) := by
  rcases h with ⟨a1, a2⟩ | ⟨a1, a2, a3, a4, a5⟩
  · rcases h2 with ⟨b1, b2⟩ | ⟨b1, b2, b3, b4, b5⟩
    · exact Or.inr ⟨a1, b1⟩
    · exact absurd b4 (a2 _ _ _ ((e _ _ _ b4).mpr b3))
  · rcases h2 with ⟨b1, b2⟩ | ⟨b1, b2, b3, b4, b5⟩
    · exact absurd a4 (b2 _ _ _ ((e _ _ _ a4).mp a3))
    · have c1 := a5 _ _ _ ((e _ _ _ b4).mpr b3) b4
      have c2 := b5 _ _ _ ((e _ _ _ a4).mp a3) a4
      rw [← b2] at c1
      rw [← a2] at c2
      obtain ⟨x1, x2_, x3, x4⟩ := x
      obtain ⟨y1, y2, y3, y4⟩ := x2
      unfold lxl at c1 c2
      dsimp only at c1 c2 a1 b1
      have : x1 = y1 ∧ x2_ = y2 ∧ x3 = y3 ∧ x4 = y4 := by omega
      obtain ⟨rfl, rfl, rfl, rfl⟩ := this
      exact Or.inl ⟨a1, b1, rfl⟩
end BST
def PrR (n kind a b k' a' b' : Int) : Prop := (0 ≤ k' ∧ k' < 3 ∧ 0 ≤ a' ∧ a' < n ∧ a' + 1 ≤ b' ∧ b' ≤ n) ∧ (k' < kind ∨ (k' = kind ∧ (a' < a ∨ (a' = a ∧ b' < b))))
def PcR (f l n a b kind k' a' b' : Int) : Prop := (0 ≤ k' ∧ k' < 3 ∧ 0 ≤ a' ∧ a' ≤ f ∧ l + 1 ≤ b' ∧ b' ≤ n) ∧ (a' < a ∨ (a' = a ∧ (b' < b ∨ (b' = b ∧ k' < kind))))
def hok (K : Int → Int) (people k a b : Int) : Prop := (hAl K people a b ∧ lo K a b = 0) ∧ ¬ (tl K 4 k a 0 = 1 ∨ tl K 4 (3 + k) b 0 = 1)
def hco (K : Int → Int) (k a b : Int) : Int := tl K 1 k a 1 + tl K 1 (3 + k) b 1
def tup (y : Int → Int) : hT4 := (y 0, y 1, y 2, y 3)
theorem tup_up {y : Int → Int} {c k a b : Int} : tup (up (up (up (up y 0 c) 1 k) 2 a) 3 b) = (c, k, a, b) := by
  unfold tup
  rw [up_ne (show (0 : Int) ≠ 3 by decide), up_ne (show (0 : Int) ≠ 2 by decide), up_ne (show (0 : Int) ≠ 1 by decide), up_eq, up_ne (show (1 : Int) ≠ 3 by decide), up_ne (show (1 : Int) ≠ 2 by decide), up_eq, up_ne (show (2 : Int) ≠ 3 by decide), up_eq, up_eq]
theorem hco_R {K : Int → Int} (h : KOK K) {k a b : Int} (k0 : 0 ≤ k) (k1 : k < 3) (a0 : 0 ≤ a) (a1 : a ≤ K 0) (b0 : 0 ≤ b) (b1 : b ≤ K 0) : 0 ≤ hco K k a b ∧ hco K k a b ≤ 198 := by
  have hn := h.1.1.2
  have i1 := h.hasR (head := 1) (s := k) (p := a) (wo := 1) (by omega) (by omega) (by omega) (by omega) (by omega)
  have i2 := h.hasR (head := 1) (s := 3 + k) (p := b) (wo := 1) (by omega) (by omega) (by omega) (by omega) (by omega)
  unfold hco
  omega
theorem hd_step {K : Int → Int} (h : KOK K) {people kind a b : Int} {y : Int → Int} (k0 : 0 ≤ kind) (k1 : kind < 3) (a0 : 0 ≤ a) (a1 : a < K 0) (b0 : a + 1 ≤ b) (b1 : b ≤ K 0) (hB : Bst (hok K people) (hco K) (PrR (K 0) kind a b) 1000000 (tup y)) : Bst (hok K people) (hco K) (PrR (K 0) kind a (b + 1)) 1000000 (tup (if hAl K people a b ∧ lo K a b = 0 then hdU K kind a b y else y)) := by
  have hc := hco_R h k0 k1 a0 (by omega) (show 0 ≤ b by omega) b1
  have e : ∀ k' a' b', PrR (K 0) kind a (b + 1) k' a' b' ↔ PrR (K 0) kind a b k' a' b' ∨ (k' = kind ∧ a' = a ∧ b' = b) := fun k' a' b' => by
    unfold PrR
    omega
  by_cases c1 : hAl K people a b ∧ lo K a b = 0
  · rw [if_pos c1]
    unfold hdU
    by_cases c2 : tl K 4 kind a 0 = 1 ∨ tl K 4 (3 + kind) b 0 = 1
    · rw [if_pos c2]
      refine hB.no (fun k' a' b' q => (e _ _ _).mpr (Or.inl q)) (fun k' a' b' q => ?_)
      rcases (e _ _ _).mp q with q | ⟨rfl, rfl, rfl⟩
      · exact Or.inl q
      · exact Or.inr (fun z => z.2 c2)
    · rw [if_neg c2]
      by_cases c3 : y 0 ≤ tl K 1 kind a 1 + tl K 1 (3 + kind) b 1
      · rw [if_pos c3]
        refine hB.keep (k := kind) (a := a) (b := b) (by omega) (fun q => ?_) (fun q1 q2 => ?_) e
        · have q' : hco K kind a b < y 0 := q
          unfold hco at q'
          omega
        · unfold PrR at q1
          omega
      · rw [if_neg c3, tup_up]
        exact hB.take (k := kind) (a := a) (b := b) ⟨c1, c2⟩ (by omega) (Or.inl (by show hco K kind a b < y 0; unfold hco; omega)) e
  · rw [if_neg c1]
    refine hB.no (fun k' a' b' q => (e _ _ _).mpr (Or.inl q)) (fun k' a' b' q => ?_)
    rcases (e _ _ _).mp q with q | ⟨rfl, rfl, rfl⟩
    · exact Or.inl q
    · exact Or.inr (fun z => c1 z.1)
theorem Bst.iff {ok : Int → Int → Int → Prop} {co : Int → Int → Int → Int} {P P' : Int → Int → Int → Prop} {big : Int} {x : hT4} (h : Bst ok co P big x) (e : ∀ k a b, P k a b ↔ P' k a b) : Bst ok co P' big x := h.no (fun k a b q => (e k a b).mp q) (fun k a b q => Or.inl ((e k a b).mpr q))
theorem hd3_B {K : Int → Int} (h : KOK K) {people kind a : Int} (k0 : 0 ≤ kind) (k1 : kind < 3) (a0 : 0 ≤ a) (a1 : a < K 0) : ∀ (n : Nat) (b : Int) (y : Int → Int), a + 1 ≤ b → b + n = K 0 + 1 → Bst (hok K people) (hco K) (PrR (K 0) kind a b) 1000000 (tup y) → Bst (hok K people) (hco K) (PrR (K 0) kind a (K 0 + 1)) 1000000 (tup (hd3 K people kind a n b y))
  | 0, b, y, h1, h2, hB => by
    rw [show K 0 + 1 = b by omega]
    exact hB
  | n + 1, b, y, h1, h2, hB => hd3_B h k0 k1 a0 a1 n (b + 1) _ (by omega) (by omega) (hd_step h k0 k1 a0 a1 h1 (by omega) hB)
theorem hd2_B {K : Int → Int} (h : KOK K) {people kind : Int} (k0 : 0 ≤ kind) (k1 : kind < 3) : ∀ (n : Nat) (a : Int) (y : Int → Int), 0 ≤ a → a + n = K 0 → Bst (hok K people) (hco K) (PrR (K 0) kind a (a + 1)) 1000000 (tup y) → Bst (hok K people) (hco K) (PrR (K 0) (kind + 1) 0 1) 1000000 (tup (hd2 K people kind n a y))
  | 0, a, y, h1, h2, hB => hB.iff (fun k' a' b' => by unfold PrR; omega)
  | n + 1, a, y, h1, h2, hB => by
    have h3 := hd3_B (people := people) h k0 k1 h1 (by omega) (K 0 + 1 - (a + 1)).toNat (a + 1) y (by omega) (by omega) hB
    exact hd2_B h k0 k1 n (a + 1) _ (by omega) (by omega) (h3.iff (fun k' a' b' => by unfold PrR; omega))
theorem hdF_B {K : Int → Int} (h : KOK K) (people : Int) (y : Int → Int) : Bst (hok K people) (hco K) (PrR (K 0) 3 0 1) 1000000 (tup (hdF K people y)) := by
  have hn := h.1.1
  have key : ∀ (n : Nat) (kind : Int) (y : Int → Int), 0 ≤ kind → kind + n = 3 → Bst (hok K people) (hco K) (PrR (K 0) kind 0 1) 1000000 (tup y) → Bst (hok K people) (hco K) (PrR (K 0) 3 0 1) 1000000 (tup (hd1 K people n kind y)) := by
    intro n
    induction n with
    | zero =>
      intro kind y h1 h2 hB
      rw [show kind = 3 by omega] at hB
      exact hB
    | succ n ih =>
      intro kind y h1 h2 hB
      exact ih (kind + 1) _ (by omega) (by omega) (hd2_B h h1 (by omega) (K 0 - 0).toNat 0 y (by omega) (by omega) hB)
  refine key 3 0 (up y 0 1000000) (by omega) (by omega) (Or.inl ⟨?_, fun k' a' b' q => ?_⟩)
  · show up y 0 1000000 0 = 1000000
    rw [up_eq]
  · unfold PrR at q
    omega
/-- the class -/
theorem th_step {K : Int → Int} (h : KOK K) {people f l a b k : Int} {x : hT4} (hf : f < K 0) (k0 : 0 ≤ k) (k1 : k < 3) (a0 : 0 ≤ a) (a1 : a ≤ f) (b0 : l + 1 ≤ b) (bz : 0 ≤ b) (b1 : b ≤ K 0) (hA : hAl K people a b ∧ lo K a b = 0) (hB : Bst (hok K people) (hco K) (PcR f l (K 0) a b k) 100000000 x) : Bst (hok K people) (hco K) (PcR f l (K 0) a b (k + 1)) 100000000 (thS (pB K) a b k x) := by
  have hc := hco_R h k0 k1 a0 (by omega) bz b1
  have hn := h.1.1.2
  have i1 := h.hasR (head := 1) (s := k) (p := a) (wo := 1) (by omega) (by omega) (by omega) (by omega) (by omega)
  have i2 := h.hasR (head := 1) (s := 3 + k) (p := b) (wo := 1) (by omega) (by omega) (by omega) (by omega) (by omega)
  have hle := hB.le
  have e : ∀ k' a' b', PcR f l (K 0) a b (k + 1) k' a' b' ↔ PcR f l (K 0) a b k k' a' b' ∨ (k' = k ∧ a' = a ∧ b' = b) := fun k' a' b' => by
    unfold PcR
    omega
  unfold thS pB
  rw [show k + 3 = 3 + k by omega]
  by_cases c2 : tl K 4 k a 0 = 1 ∨ tl K 4 (3 + k) b 0 = 1
  · have hB2 : Bst (hok K people) (hco K) (PcR f l (K 0) a b (k + 1)) 100000000 x := by
      refine hB.no (fun k' a' b' q => (e _ _ _).mpr (Or.inl q)) (fun k' a' b' q => ?_)
      rcases (e _ _ _).mp q with q | ⟨rfl, rfl, rfl⟩
      · exact Or.inl q
      · exact Or.inr (fun z => z.2 c2)
    have hbig : 100000000 ≤ (if tl K 4 k a 0 = 1 then 100000000 else tl K 1 k a 1) + (if tl K 4 (3 + k) b 0 = 1 then 100000000 else tl K 1 (3 + k) b 1) := by
      rcases c2 with c2 | c2
      · rw [if_pos c2]; split <;> omega
      · rw [if_pos c2]; split <;> omega
    generalize (if tl K 4 k a 0 = 1 then 100000000 else tl K 1 k a 1) + (if tl K 4 (3 + k) b 0 = 1 then 100000000 else tl K 1 (3 + k) b 1) = cst at hbig ⊢
    by_cases c : cst < x.1 ∨ (cst = x.1 ∧ k < x.2.1)
    · rw [if_pos c]
      rcases hB2 with ⟨u1, u2⟩ | ⟨u1, u2⟩
      · exact Or.inl ⟨by show cst = 100000000; omega, u2⟩
      · omega
    · rw [if_neg c]
      exact hB2
  · have n1 : ¬ tl K 4 k a 0 = 1 := fun q => c2 (Or.inl q)
    have n2 : ¬ tl K 4 (3 + k) b 0 = 1 := fun q => c2 (Or.inr q)
    rw [if_neg n1, if_neg n2]
    show Bst _ _ _ _ (if hco K k a b < x.1 ∨ (hco K k a b = x.1 ∧ k < x.2.1) then (hco K k a b, k, a, b) else x)
    by_cases c3 : hco K k a b < x.1 ∨ (hco K k a b = x.1 ∧ k < x.2.1)
    · rw [if_pos c3]
      exact hB.take ⟨hA, c2⟩ (by omega) c3 e
    · rw [if_neg c3]
      refine hB.keep (k := k) (a := a) (b := b) (by omega) (fun q => c3 (Or.inl q)) (fun q1 q2 => ?_) e
      unfold PcR at q1
      have c4 : ¬ k < x.2.1 := fun q => c3 (Or.inr ⟨q2, q⟩)
      omega
theorem hc2_B {K : Int → Int} (h : KOK K) {people f l a : Int} (hf : f < K 0) (l0 : 0 ≤ l) (a0 : 0 ≤ a) (a1 : a ≤ f) (hA : ∀ b, l < b → hAl K people a b) : ∀ (n : Nat) (b : Int) (x : hT4), l + 1 ≤ b → b + n = K 0 + 1 → Bst (hok K people) (hco K) (PcR f l (K 0) a b 0) 100000000 x → Bst (hok K people) (hco K) (PcR f l (K 0) (a + 1) (l + 1) 0) 100000000 (hc2 K (pB K) a n b x)
  | 0, b, x, h1, h2, hB => hB.iff (fun k' a' b' => by unfold PcR; omega)
  | n + 1, b, x, h1, h2, hB => by
    rw [hc2_s]
    refine hc2_B h hf l0 a0 a1 hA n (b + 1) _ (by omega) (by omega) ?_
    by_cases c : lo K a b = 0
    · rw [if_pos c]
      have s1 := th_step (people := people) h hf (show (0 : Int) ≤ 0 by omega) (by omega) a0 a1 h1 (by omega) (by omega) ⟨hA b (by omega), c⟩ hB
      have s2 := th_step (people := people) h hf (show (0 : Int) ≤ 0 + 1 by omega) (by omega) a0 a1 h1 (by omega) (by omega) ⟨hA b (by omega), c⟩ s1
      have s3 := th_step (people := people) h hf (show (0 : Int) ≤ 0 + 1 + 1 by omega) (by omega) a0 a1 h1 (by omega) (by omega) ⟨hA b (by omega), c⟩ s2
      exact s3.iff (fun k' a' b' => by unfold PcR; omega)
    · rw [if_neg c]
      refine hB.no (fun k' a' b' q => by unfold PcR at q ⊢; omega) (fun k' a' b' q => ?_)
      by_cases d : a' = a ∧ b' = b
      · rw [d.1, d.2]
        exact Or.inr (fun z => c z.1.2)
      · left
        unfold PcR at q ⊢
        omega
theorem hc1_B {K : Int → Int} (h : KOK K) {people f l : Int} (hf : f < K 0) (l0 : 0 ≤ l) (hl : l < K 0) (hA : ∀ a b, a ≤ f → l < b → hAl K people a b) : ∀ (n : Nat) (a : Int) (x : hT4), 0 ≤ a → a + n = f + 1 → Bst (hok K people) (hco K) (PcR f l (K 0) a (l + 1) 0) 100000000 x → Bst (hok K people) (hco K) (PcR f l (K 0) (f + 1) (l + 1) 0) 100000000 (hc1 K (pB K) l n a x)
  | 0, a, x, h1, h2, hB => by
    rw [show f + 1 = a by omega]
    exact hB
  | n + 1, a, x, h1, h2, hB => by
    rw [hc1_s]
    exact hc1_B h hf l0 hl hA n (a + 1) _ (by omega) (by omega) (hc2_B h hf l0 h1 (by omega) (fun b q => hA a b (by omega) q) (K 0 + 1 - (l + 1)).toNat (l + 1) x (by omega) (by omega) hB)
theorem fl_in {K : Int → Int} {people f l : Int} (hn : 0 ≤ K 0) (h : flF K people (K 0 - 0).toNat 0 (K 0, -1) = (f, l)) (hl : l ≠ -1) : 0 ≤ f ∧ f ≤ l ∧ l < K 0 ∧ sai K people l := by
  have hr := flF_R (K := K) (people := people) (K 0 - 0).toNat 0 (K 0, -1) (by show (-1 : Int) < 0; omega)
  rw [h] at hr
  obtain ⟨⟨h1, h2⟩, h3, h4, h5⟩ := hr
  dsimp only at h1 h2 h3 h4 h5
  have h5b : 0 ≤ l ∧ l < K 0 ∧ sai K people l := by
    rcases h5 with h5 | ⟨u1, u2, u3⟩
    · exact absurd h5 hl
    · exact ⟨u1, by omega, u3⟩
  have h6 := h3 l h5b.1 (by omega) h5b.2.2
  have h4b : 0 ≤ f := by
    rcases h4 with h4 | ⟨u1, u2, u3⟩
    · omega
    · exact u1
  exact ⟨h4b, by omega, h5b.2.1, h5b.2.2⟩
theorem hide_eq {K : Int → Int} (hk : KOK K) {people f l : Int} (hF : flF K people (K 0 - 0).toNat 0 (K 0, -1) = (f, l)) (hl : l ≠ -1) {q7 q8 q9 : Int} {r : hT4} (h : hc1 K (pB K) l (f + 1 - 0).toNat 0 (100000000, q7, q8, q9) = r) (y : Int → Int) : (r.1 < 100000000 ∧ ¬ hdF K people y 0 = 1000000 ∧ tup (hdF K people y) = r) ∨ (¬ r.1 < 100000000 ∧ hdF K people y 0 = 1000000) := by
  have hn := hk.1.1
  obtain ⟨f0, f1, f2, f3⟩ := fl_in hn.1 hF hl
  have hA := hAl_fl hn.1 hF hl
  have hR := hdF_B hk people y
  have hC := hc1_B (people := people) hk (show f < K 0 by omega) (show 0 ≤ l by omega) f2 (fun a b q1 q2 => (hA a b).mpr ⟨q1, q2⟩) (f + 1 - 0).toNat 0 (100000000, q7, q8, q9) (by omega) (by omega) (Or.inl ⟨rfl, fun k' a' b' q => by unfold PcR at q; omega⟩)
  rw [h] at hC
  rcases hR.uniq hC (fun k a b ho => by
      have z := (hA a b).mp ho.1.1
      unfold PrR PcR
      omega) with ⟨u1, u2, u3⟩ | ⟨u1, u2⟩
  · refine Or.inl ⟨u2, fun q => ?_, u3⟩
    have u1' : hdF K people y 0 < 1000000 := u1
    omega
  · exact Or.inr ⟨by omega, u1⟩
/-- who is said, by bits -/
theorem bit_and : ∀ (p : Fin 64) (s : Fin 6), ((ii 1 <<< (ii ((s.val : Int) + 6 - 6) &&& 31)) &&& ii (p.val : Int) = ii 0 ↔ ¬ bq (p.val : Int) ((s.val : Int) + 6)) := by decide +kernel
theorem i32_aod (a b c : Int32) : a &&& (b ||| c) = (a &&& b) ||| (a &&& c) := by
  apply Int32.toBitVec_inj.1
  simp only [Int32.toBitVec_and, Int32.toBitVec_or]
  apply BitVec.eq_of_getLsbD_eq
  intro i hi
  simp only [BitVec.getLsbD_and, BitVec.getLsbD_or, Bool.and_or_distrib_left]
theorem bit_63 : ∀ (s : Fin 6), bq 63 ((s.val : Int) + 6) := by decide +kernel
theorem sd_and {K m : Int → Int} {people : Int} (p0 : 0 ≤ people) (p1 : people ≤ 63) : ∀ (n : Nat), (∀ j : Int, 0 ≤ j → j < n → K (1 + j) ≤ 11) → (sdF K m n &&& ii people = ii 0 ↔ ∀ q : Int, 0 ≤ q → q < n → ¬ (6 ≤ K (1 + q) ∧ bq people (K (1 + q)) ∧ dpc m q q.toNat = 0))
  | 0, _ => ⟨fun _ q q0 q1 => by omega, fun _ => by
      show ii 0 &&& ii people = ii 0
      exact Int32.zero_and⟩
  | n + 1, hK => by
    have ih := sd_and (m := m) p0 p1 n (fun j j0 j1 => hK j j0 (by omega))
    have e : sdF K m (n + 1) = sdF K m n ||| (if 6 ≤ K (1 + (n : Int)) ∧ bq 63 (K (1 + (n : Int))) ∧ dpc m (n : Int) n = 0 then ii 1 <<< (ii (K (1 + (n : Int)) - 6) &&& 31) else ii 0) := rfl
    have hbit : ((if 6 ≤ K (1 + (n : Int)) ∧ bq 63 (K (1 + (n : Int))) ∧ dpc m (n : Int) n = 0 then ii 1 <<< (ii (K (1 + (n : Int)) - 6) &&& 31) else ii 0) &&& ii people = ii 0) ↔ ¬ (6 ≤ K (1 + (n : Int)) ∧ bq people (K (1 + (n : Int))) ∧ dpc m (n : Int) n = 0) := by
      by_cases c : 6 ≤ K (1 + (n : Int))
      · have h11 := hK n (by omega) (by omega)
        have hb := bit_and ⟨people.toNat, by omega⟩ ⟨(K (1 + (n : Int)) - 6).toNat, by omega⟩
        have h6 := bit_63 ⟨(K (1 + (n : Int)) - 6).toNat, by omega⟩
        have e1 : ((people.toNat : Nat) : Int) = people := by omega
        have e2 : (((K (1 + (n : Int)) - 6).toNat : Nat) : Int) + 6 = K (1 + (n : Int)) := by omega
        dsimp only at hb h6
        rw [e1, e2] at hb
        rw [e2] at h6
        by_cases c2 : dpc m (n : Int) n = 0
        · rw [if_pos ⟨c, h6, c2⟩, hb]
          exact ⟨fun z w => z w.2.1, fun z w => z ⟨c, w, c2⟩⟩
        · rw [if_neg (fun z => c2 z.2.2)]
          exact ⟨fun _ w => c2 w.2.2, fun _ => Int32.zero_and⟩
      · rw [if_neg (fun z => c z.1)]
        exact ⟨fun _ w => c w.1, fun _ => Int32.zero_and⟩
    rw [e, Int32.and_comm _ (ii people), i32_aod, show (ii 0 : Int32) = 0 from rfl, Int32.or_eq_zero_iff, Int32.and_comm (ii people) (sdF K m n), Int32.and_comm (ii people)]
    constructor
    · intro ⟨z1, z2⟩ q q0 q1
      by_cases d : q = n
      · rw [d]
        exact hbit.mp z2
      · exact ih.mp z1 q q0 (by omega)
    · intro z
      exact ⟨ih.mpr (fun q q0 q1 => z q q0 (by omega)), hbit.mpr (z n (by omega) (by omega))⟩
theorem sd_fl {K : Int → Int} (hk : KR K) {people f l : Int} (p0 : 0 ≤ people) (p1 : people ≤ 63) (hF : flF K people (K 0 - 0).toNat 0 (K 0, -1) = (f, l)) : sd K &&& ii people ≠ ii 0 ↔ l ≠ -1 := by
  have h := sd_and (K := K) (m := mt K) p0 p1 (K 0).toNat (fun j j0 j1 => (hk.2.1 j j0 (by omega)).2)
  have hn := hk.1.1
  constructor
  · intro z q
    exact z (h.mpr (fun p q0 q1 c => fl_none hF q p q0 (by omega) c))
  · intro z q
    obtain ⟨f0, f1, f2, f3⟩ := fl_in hn hF z
    exact h.mp q l (by omega) (by omega) f3
