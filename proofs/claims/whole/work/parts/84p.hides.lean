/-! PURE: the fold of hides asks the prices of the row only -/
theorem thF_congr {pr pr2 : Int → Int → Int} {a b : Int} (h : ∀ s, 0 ≤ s → s < 6 → pr s a = pr2 s a ∧ pr s b = pr2 s b) : ∀ (n : Nat) (k : Int) (x : Int × Int × Int × Int), 0 ≤ k → k + n ≤ 3 → thF pr a b n k x = thF pr2 a b n k x
  | 0, k, x, _, _ => rfl
  | n + 1, k, x, h0, h1 => by
    show thF pr a b n (k + 1) (thS pr a b k x) = thF pr2 a b n (k + 1) (thS pr2 a b k x)
    rw [show thS pr a b k x = thS pr2 a b k x by unfold thS; rw [(h k h0 (by omega)).1, (h (k + 3) (by omega) (by omega)).2]]
    exact thF_congr h n (k + 1) _ (by omega) (by omega)
theorem hc2_congr {K : Int → Int} {pr pr2 : Int → Int → Int} (h : ∀ s q, 0 ≤ s → s < 6 → 0 ≤ q → q ≤ K 0 → pr s q = pr2 s q) {a : Int} (a0 : 0 ≤ a) (a1 : a ≤ K 0) : ∀ (n : Nat) (b : Int) (x : Int × Int × Int × Int), 0 ≤ b → b + n ≤ K 0 + 1 → hc2 K pr a n b x = hc2 K pr2 a n b x
  | 0, b, x, _, _ => rfl
  | n + 1, b, x, h0, h1 => by
    rw [hc2_s, hc2_s, thF_congr (pr2 := pr2) (fun s s0 s1 => ⟨h s a s0 s1 a0 a1, h s b s0 s1 h0 (by omega)⟩) 3 0 x (by omega) (by decide)]
    exact hc2_congr h a0 a1 n (b + 1) _ (by omega) (by omega)
theorem hc1_congr {K : Int → Int} {pr pr2 : Int → Int → Int} (h : ∀ s q, 0 ≤ s → s < 6 → 0 ≤ q → q ≤ K 0 → pr s q = pr2 s q) {l : Int} (l0 : -1 ≤ l) (l1 : l ≤ K 0) : ∀ (n : Nat) (a : Int) (x : Int × Int × Int × Int), 0 ≤ a → a + n ≤ K 0 + 1 → hc1 K pr l n a x = hc1 K pr2 l n a x
  | 0, a, x, _, _ => rfl
  | n + 1, a, x, h0, h1 => by
    rw [hc1_s, hc1_s, hc2_congr h h0 (by omega) _ (l + 1) x (by omega) (by omega)]
    exact hc1_congr h l0 l1 n (a + 1) _ (by omega) (by omega)
