/-! PURE: striking, the game -/
def sk (K : Int → Int) (p : Int) : Int := tl K 2 (K (1 + p)) p 1
def wk (K : Int → Int) (p : Int) : Int := tl K 3 (K (1 + p)) p 1
theorem sk_R {K : Int → Int} {p : Int} (h : KOK K) (p0 : 0 ≤ p) (p1 : p < K 0) : 0 ≤ sk K p ∧ sk K p ≤ 99 := by
  have hn := h.1.1.2
  have hs := h.1.2.1 p p0 p1
  exact h.hasR (by omega) (by omega) (by omega) (by omega) (by omega)
theorem wk_R {K : Int → Int} {p : Int} (h : KOK K) (p0 : 0 ≤ p) (p1 : p < K 0) : 0 ≤ wk K p ∧ wk K p ≤ 99 := by
  have hn := h.1.1.2
  have hs := h.1.2.1 p p0 p1
  exact h.hasR (by omega) (by omega) (by omega) (by omega) (by omega)
def stS (K : Int → Int) (w : Int → Int) (T : Int → Int → Int) (a b : Int) : Int := mnF (fun q => if prd K a q then T (a + 1) q + T (q + 1) b else 1000000) (b - (a + 1)).toNat (a + 1) (T (a + 1) b + (if 6 ≤ K (1 + a) then 0 else w a))
theorem stS_def {K w : Int → Int} {T : Int → Int → Int} {a b : Int} : stS K w T a b = mnF (fun q => if prd K a q then T (a + 1) q + T (q + 1) b else 1000000) (b - (a + 1)).toNat (a + 1) (T (a + 1) b + (if 6 ≤ K (1 + a) then 0 else w a)) := rfl
theorem stS_loc {K w : Int → Int} : Loc (stS K w) := by
  intro T T' a b hab h
  rw [stS_def, stS_def, h (a + 1) b (by omega) (by omega) (by omega) (by omega)]
  refine mnF_congr _ _ _ (fun j h1 h2 => ?_)
  rw [h (a + 1) j (by omega) (by omega) (by omega) (by omega), h (j + 1) b (by omega) (by omega) (by omega) (by omega)]
def ST (K : Int → Int) : Int → Int → Int := iv (stS K (sk K))
theorem ST_eq {K : Int → Int} {a b : Int} (h : a < b) : ST K a b = stS K (sk K) (ST K) a b := iv_eq stS_loc h
theorem ST_self {K : Int → Int} {a : Int} : ST K a a = 0 := iv_self
theorem ST_R {K : Int → Int} (h : KOK K) : ∀ (k : Nat) (a b : Int), b - a ≤ k → 0 ≤ a → a ≤ b → b ≤ K 0 → 0 ≤ ST K a b ∧ ST K a b ≤ 99 * (b - a)
  | 0, a, b, hk, h1, h2, h3 => by
    have e : b = a := by omega
    subst e
    rw [ST_self]
    omega
  | k + 1, a, b, hk, h1, h2, h3 => by
    by_cases e : b = a
    · subst e
      rw [ST_self]
      omega
    rw [ST_eq (by omega), stS_def]
    have i0 := ST_R h k (a + 1) b (by omega) (by omega) (by omega) (by omega)
    have i1 := sk_R (p := a) h (by omega) (by omega)
    have i2 : 0 ≤ (if 6 ≤ K (1 + a) then 0 else sk K a) ∧ (if 6 ≤ K (1 + a) then 0 else sk K a) ≤ 99 := by
      split <;> omega
    refine ⟨mnF_ge (by omega) (fun j q1 q2 => ?_), Int.le_trans (mnF_le _ _ _).1 (by omega)⟩
    split
    · have i3 := ST_R h k (a + 1) j (by omega) (by omega) (by omega) (by omega)
      have i4 := ST_R h k (j + 1) b (by omega) (by omega) (by omega) (by omega)
      omega
    · decide
theorem ST_R2 {K : Int → Int} {a b : Int} (h : KOK K) (h1 : 0 ≤ a) (h2 : a ≤ b) (h3 : b ≤ K 0) : 0 ≤ ST K a b ∧ ST K a b ≤ 1980 := by
  have hn := h.1.1.2
  have := ST_R h _ a b (Int.self_le_toNat _) h1 h2 h3
  omega
/-- the first one that is so; -1 -/
def fsF (P : Int → Prop) [DecidablePred P] : Nat → Int → Int
  | 0, _ => -1
  | n + 1, q => if P q then q else fsF P n (q + 1)
theorem fsF_R {P : Int → Prop} [DecidablePred P] : ∀ (n : Nat) (q : Int), fsF P n q = -1 ∨ (q ≤ fsF P n q ∧ fsF P n q < q + n)
  | 0, q => Or.inl rfl
  | n + 1, q => by
    unfold fsF
    split
    · right; omega
    · rcases fsF_R (P := P) n (q + 1) with h | h
      · exact Or.inl h
      · right; omega
abbrev mtP (K : Int → Int) (a b q : Int) : Prop := prd K a q ∧ ST K (a + 1) q + ST K (q + 1) b = ST K a b
def mtS (K : Int → Int) (a b : Int) : Int := fsF (mtP K a b) (b - (a + 1)).toNat (a + 1)
theorem mtS_R {K : Int → Int} {a b : Int} : mtS K a b = -1 ∨ (a + 1 ≤ mtS K a b ∧ mtS K a b < b) := by
  unfold mtS
  rcases fsF_R (P := mtP K a b) (b - (a + 1)).toNat (a + 1) with h | h
  · exact Or.inl h
  · right; omega
/-- which are struck out -/
def lcF (K : Int → Int) : Nat → Int → Int → (Int → Int) → (Int → Int)
  | 0, _, _, x => x
  | k + 1, a, b, x => if b ≤ a then x else if mtS K a b = -1 then lcF K k (a + 1) b (up x a (if 6 ≤ K (1 + a) then 0 else 1)) else lcF K k (mtS K a b + 1) b (lcF K k (a + 1) (mtS K a b) (up (up x a 0) (mtS K a b) 0))
theorem lcF_def {K : Int → Int} {k : Nat} {a b : Int} {x : Int → Int} : lcF K (k + 1) a b x = if b ≤ a then x else if mtS K a b = -1 then lcF K k (a + 1) b (up x a (if 6 ≤ K (1 + a) then 0 else 1)) else lcF K k (mtS K a b + 1) b (lcF K k (a + 1) (mtS K a b) (up (up x a 0) (mtS K a b) 0)) := rfl
theorem lcF_done {K : Int → Int} {a b : Int} {x : Int → Int} (h : b ≤ a) : ∀ k : Nat, lcF K k a b x = x
  | 0 => rfl
  | k + 1 => by rw [lcF_def, if_pos h]
theorem lcF_fuel {K : Int → Int} : ∀ (k : Nat) (a b : Int) (x : Int → Int), b - a ≤ k → lcF K (k + 1) a b x = lcF K k a b x
  | 0, a, b, x, h => lcF_done (by omega) _
  | k + 1, a, b, x, h => by
    by_cases c : b ≤ a
    · rw [lcF_done c, lcF_done c]
    have hm := mtS_R (K := K) (a := a) (b := b)
    rw [lcF_def (k := k + 1), lcF_def (k := k) (a := a) (x := x), if_neg c, if_neg c]
    by_cases c2 : mtS K a b = -1
    · rw [if_pos c2, if_pos c2]
      exact lcF_fuel k _ _ _ (by omega)
    · rw [if_neg c2, if_neg c2, lcF_fuel k (a + 1) _ _ (by omega)]
      exact lcF_fuel k _ _ _ (by omega)
theorem lcF_fix {K : Int → Int} {a b : Int} {x : Int → Int} : ∀ (k : Nat), b - a ≤ k → lcF K k a b x = lcF K (b - a).toNat a b x
  | 0, h => by rw [show (b - a).toNat = 0 by omega]
  | k + 1, h => by
    by_cases c : b - a ≤ k
    · rw [lcF_fuel k a b x c]
      exact lcF_fix k c
    · rw [show (b - a).toNat = k + 1 by omega]
def lc (K : Int → Int) (a b : Int) (x : Int → Int) : Int → Int := lcF K (b - a).toNat a b x
theorem lc_0 {K : Int → Int} {a b : Int} {x : Int → Int} (h : b ≤ a) : lc K a b x = x := lcF_done h _
theorem lc_1 {K : Int → Int} {a b : Int} {x : Int → Int} (h : a < b) (c : mtS K a b = -1) : lc K a b x = lc K (a + 1) b (up x a (if 6 ≤ K (1 + a) then 0 else 1)) := by
  unfold lc
  rw [show (b - a).toNat = (b - (a + 1)).toNat + 1 by omega, lcF_def, if_neg (by omega), if_pos c]
theorem lc_2 {K : Int → Int} {a b : Int} {x : Int → Int} (h : a < b) (c : mtS K a b ≠ -1) : lc K a b x = lc K (mtS K a b + 1) b (lc K (a + 1) (mtS K a b) (up (up x a 0) (mtS K a b) 0)) := by
  have hm := mtS_R (K := K) (a := a) (b := b)
  unfold lc
  rw [show (b - a).toNat = (b - (a + 1)).toNat + 1 by omega, lcF_def, if_neg (by omega), if_neg c, lcF_fix (a := a + 1) _ (by omega), lcF_fix (a := mtS K a b + 1) _ (by omega)]
theorem lcF_R {K : Int → Int} : ∀ (k : Nat) (a b : Int) (x : Int → Int) (j : Int), b - a ≤ k → (a ≤ j ∧ j < b ∨ (x j = 0 ∨ x j = 1)) → lcF K k a b x j = 0 ∨ lcF K k a b x j = 1
  | 0, a, b, x, j, h, hj => by
    have : ¬ (a ≤ j ∧ j < b) := by omega
    exact hj.resolve_left this
  | k + 1, a, b, x, j, h, hj => by
    rw [lcF_def]
    by_cases c : b ≤ a
    · rw [if_pos c]
      have : ¬ (a ≤ j ∧ j < b) := by omega
      exact hj.resolve_left this
    rw [if_neg c]
    have hm := mtS_R (K := K) (a := a) (b := b)
    by_cases c2 : mtS K a b = -1
    · rw [if_pos c2]
      refine lcF_R k _ _ _ j (by omega) ?_
      by_cases e : j = a
      · right
        rw [e, up_eq]
        split
        · left; rfl
        · right; rfl
      · rw [up_ne e]
        rcases hj with hj | hj
        · left; omega
        · right; exact hj
    · rw [if_neg c2]
      refine lcF_R k _ _ _ j (by omega) ?_
      by_cases e1 : mtS K a b + 1 ≤ j ∧ j < b
      · exact Or.inl e1
      · right
        refine lcF_R k _ _ _ j (by omega) ?_
        by_cases e2 : a + 1 ≤ j ∧ j < mtS K a b
        · exact Or.inl e2
        · right
          by_cases e3 : j = mtS K a b
          · rw [e3, up_eq]; left; rfl
          · rw [up_ne e3]
            by_cases e4 : j = a
            · rw [e4, up_eq]; left; rfl
            · rw [up_ne e4]
              rcases hj with hj | hj
              · omega
              · exact hj
theorem lc_R {K : Int → Int} {a b : Int} {x : Int → Int} {j : Int} (h1 : a ≤ j) (h2 : j < b) : lc K a b x j = 0 ∨ lc K a b x j = 1 := lcF_R _ a b x j (Int.self_le_toNat _) (Or.inl ⟨h1, h2⟩)
def gmS (w : Int → Int) (T : Int → Int → Int) (a b : Int) : Int := max (w a - T (a + 1) b) (w (b - 1) - T a (b - 1))
theorem gmS_loc {w : Int → Int} : Loc (gmS w) := by
  intro T T' a b hab h
  unfold gmS
  rw [h (a + 1) b (by omega) (by omega) (by omega) (by omega), h a (b - 1) (by omega) (by omega) (by omega) (by omega)]
def GM (K : Int → Int) : Int → Int → Int := iv (gmS (wk K))
theorem GM_eq {K : Int → Int} {a b : Int} (h : a < b) : GM K a b = max (wk K a - GM K (a + 1) b) (wk K (b - 1) - GM K a (b - 1)) := iv_eq gmS_loc h
theorem GM_self {K : Int → Int} {a : Int} : GM K a a = 0 := iv_self
theorem GM_R {K : Int → Int} (h : KOK K) : ∀ (k : Nat) (a b : Int), b - a ≤ k → 0 ≤ a → a ≤ b → b ≤ K 0 → -(99 * (b - a)) ≤ GM K a b ∧ GM K a b ≤ 99 * (b - a)
  | 0, a, b, hk, h1, h2, h3 => by
    have e : b = a := by omega
    subst e
    rw [GM_self]
    omega
  | k + 1, a, b, hk, h1, h2, h3 => by
    by_cases e : b = a
    · subst e
      rw [GM_self]
      omega
    rw [GM_eq (by omega)]
    have i0 := GM_R h k (a + 1) b (by omega) (by omega) (by omega) (by omega)
    have i1 := GM_R h k a (b - 1) (by omega) (by omega) (by omega) (by omega)
    have i2 := wk_R (p := a) h (by omega) (by omega)
    have i3 := wk_R (p := b - 1) h (by omega) (by omega)
    omega
theorem GM_R2 {K : Int → Int} {a b : Int} (h : KOK K) (h1 : 0 ≤ a) (h2 : a ≤ b) (h3 : b ≤ K 0) : -1980 ≤ GM K a b ∧ GM K a b ≤ 1980 := by
  have hn := h.1.1.2
  have := GM_R h _ a b (Int.self_le_toNat _) h1 h2 h3
  omega
def stR (K : Int → Int) (w : Int) (x : Int → Int) : Int := if ¬ (0 ≤ w ∧ w ≤ K 0) then -1 else if w = 0 then ST K 0 (K 0) else lc K 0 (K 0) x (w - 1)
def gmR (K : Int → Int) (w : Int) : Int := if ¬ (0 ≤ w ∧ w ≤ 1) ∨ (w = 1 ∧ K 0 = 0) then -100000 else if w = 0 then GM K 0 (K 0) else if wk K 0 - GM K (0 + 1) (K 0) < wk K (K 0 - 1) - GM K 0 (K 0 - 1) then 1 else 0
