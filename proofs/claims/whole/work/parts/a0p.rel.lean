/-! PURE: rows of the reference that are alike within their room; bytes fed; refusals; laws laid -/
theorem LWok.sameB {K K' : Int → Int} {f : Int} {t : TD} (h : LWok K f t) (f0 : 0 ≤ f) (f1 : f ≤ 6) (e : ∀ j, 26 ≤ j → j < 5633 → K' j = K j) : LWok K' f t := by
  have hq : 400 * f + K (26 + f) ≤ 2800 := by
    obtain ⟨C, V, cs, t', l, -, -, h3, -⟩ := h
    exact h3.1.2.1
  have e1 : cdA K' (400 * f + K (26 + f)) = cdA K (400 * f + K (26 + f)) := by
    funext k
    unfold cdA
    by_cases c : 0 ≤ k ∧ k < 400 * f + K (26 + f)
    · rw [if_pos c, if_pos c, e _ (by omega) (by omega)]
    · rw [if_neg c, if_neg c]
  have e2 : vlA K' = vlA K := by
    funext k
    unfold vlA
    by_cases c : 0 ≤ k ∧ k < 2800
    · rw [if_pos c, if_pos c, e _ (by omega) (by omega)]
    · rw [if_neg c, if_neg c]
  unfold LWok
  rw [e _ (by omega) (by omega), e1, e2]
  exact h
theorem LB.sameB {K K' : Int → Int} {lx : Nat → Option Nat} {ts : List TD} (h : LB K lx ts) (hk : K 24 ≤ 6) (e : ∀ j, 22 ≤ j → j < 5633 → K' j = K j) : LB K' lx ts := by
  obtain ⟨h1, h2, h3⟩ := h
  refine ⟨fun k k0 k1 => by rw [e _ (by omega) (by omega)]; exact h1 k k0 k1, fun k k0 k1 => by rw [e _ (by omega) (by omega)]; exact h2 k k0 k1, fun f f0 f1 => ?_⟩
  rw [e 24 (by omega) (by omega)] at f1
  obtain ⟨j, t, a1, a2, a3⟩ := h3 f f0 f1
  exact ⟨j, t, a1, a2, a3.sameB f0 (by omega) (fun j hj h2 => e j (by omega) h2)⟩
theorem SI.sameB {K K' : Int → Int} {lc fo rn rl rp : Int} {rs rm rd tm : Int → Int} (h : SI K lc fo rn rl rp rs rm rd tm) (e : ∀ j, 0 ≤ j → j < 26 → K' j = K j) : SI K' lc fo rn rl rp rs rm rd tm := by
  obtain ⟨hR, ⟨k1, k2, k3, k4, k5, k6, k7⟩, t0, t1, t2, l1, l2⟩ := h
  have e0 := e 0 (by omega) (by omega)
  have r : RE K K' := ⟨e0, fun q q0 q1 => e _ (by omega) (by omega)⟩
  refine ⟨hR.re r, ⟨by rw [e0]; exact k1, fun j j0 j1 => by rw [e0] at j1; rw [r.2 j j0 j1]; exact k2 j j0 j1, by rw [e 21 (by omega) (by omega)]; exact k3, by rw [e 22 (by omega) (by omega)]; exact k4, by rw [e 23 (by omega) (by omega)]; exact k5, by rw [e 24 (by omega) (by omega)]; exact k6, by rw [e 25 (by omega) (by omega), e 24 (by omega) (by omega)]; exact k7⟩, by rw [e 21 (by omega) (by omega)]; exact t0, by rw [e 22 (by omega) (by omega)]; exact t1, by rw [e 23 (by omega) (by omega)]; exact t2, by rw [e 24 (by omega) (by omega)]; exact l1, by rw [e 25 (by omega) (by omega)]; exact l2⟩
theorem UR.sameZ {K Z Z' dk dl dg : Int → Int} {u : Int} (h : UR K Z u dk dl dg) (e : ∀ j, 0 ≤ j → j < 368 → Z' j = Z j) : UR K Z' u dk dl dg := by
  obtain ⟨h1, h2, h3⟩ := h
  refine ⟨h1, h2, fun j j0 j1 => ?_⟩
  obtain ⟨a1, a2, a3⟩ := h3 j j0 j1
  refine ⟨by rw [e _ (by omega) (by omega)]; exact a1, a2.same (fun i i0 i1 => e _ (by omega) (by omega)), ?_⟩
  have b1 := a3.cA (A' := fun i => Z' (23 * j + i)) a2.1.2 (fun i i0 i1 => e _ (by omega) (by omega))
  have a20 : (fun i => Z' (23 * j + i)) 0 ≤ 20 := by
    show Z' (23 * j + 0) ≤ 20
    rw [e _ (by omega) (by omega)]
    exact a2.1.2
  by_cases c : j + 1 = u
  · rw [if_pos c] at b1 ⊢
    exact b1
  · rw [if_neg c] at b1 ⊢
    exact b1.cB a20 (fun i i0 i1 => e _ (by omega) (by omega))
/-- bytes fed -/
theorem adB_at {n z : Int} {t : Int → Int} : ∀ (k : Nat) (j : Int), adB n z k t j = if z ≤ j ∧ j < z + k then ub (bt n (j - z)) else t j
  | 0, j => by
    rw [if_neg (by omega)]
    rfl
  | k + 1, j => by
    show up (adB n z k t) (z + k) (ub (bt n k)) j = _
    by_cases c : j = z + k
    · rw [c, up_eq, if_pos (by omega), show z + (k : Int) - z = k by omega]
    · rw [up_ne c, adB_at k j]
      by_cases c2 : z ≤ j ∧ j < z + k
      · rw [if_pos c2, if_pos (by omega)]
      · rw [if_neg c2, if_neg (by omega)]
theorem fdF_at {y : Int → Int} {tp : Int} {t : Int → Int} : ∀ (k : Nat) (j : Int), fdF y tp k t j = if tp ≤ j ∧ j < tp + k then bt (y ((j - tp).tdiv 4)) ((j - tp).tmod 4) else t j
  | 0, j => by
    rw [if_neg (by omega)]
    rfl
  | k + 1, j => by
    show up (fdF y tp k t) (tp + k) _ j = _
    by_cases c : j = tp + k
    · rw [c, up_eq, if_pos (by omega), show tp + (k : Int) - tp = k by omega]
    · rw [up_ne c, fdF_at k j]
      by_cases c2 : tp ≤ j ∧ j < tp + k
      · rw [if_pos c2, if_pos (by omega)]
      · rw [if_neg c2, if_neg (by omega)]
theorem feed_eq {a b c e f z : Int} {u t y0 : Int → Int} (z0 : 0 ≤ z) (h : ∀ j, 0 ≤ j → j < 400 → u j = ub (t j) ∧ -128 ≤ t j ∧ t j ≤ 127) (j : Int) (j0 : 0 ≤ j) (j1 : j < 400) : adB f (z + 4 + 4 + 4 + 4) 4 (adB e (z + 4 + 4 + 4) 4 (adB c (z + 4 + 4) 4 (adB b (z + 4) 4 (adB a z 4 u)))) j = ub (fdF (up (up (up (up (up y0 0 a) 1 b) 2 c) 3 e) 4 f) z 20 t j) ∧ -128 ≤ fdF (up (up (up (up (up y0 0 a) 1 b) 2 c) 3 e) 4 f) z 20 t j ∧ fdF (up (up (up (up (up y0 0 a) 1 b) 2 c) 3 e) 4 f) z 20 t j ≤ 127 := by
  rw [adB_at, adB_at, adB_at, adB_at, adB_at, fdF_at]
  have y0' : ∀ v, up (up (up (up (up y0 0 a) 1 b) 2 c) 3 e) 4 f v = if v = 4 then f else if v = 3 then e else if v = 2 then c else if v = 1 then b else if v = 0 then a else y0 v := fun v => rfl
  by_cases h0 : z ≤ j ∧ j < z + 20
  · rw [if_pos (show z ≤ j ∧ j < z + ((20 : Nat) : Int) from h0)]
    have hd : (j - z).tdiv 4 = (j - z) / 4 := Int.tdiv_eq_ediv_of_nonneg (by omega)
    have hm : (j - z).tmod 4 = (j - z) % 4 := Int.tmod_eq_emod_of_nonneg (by omega)
    rw [hd, hm, y0']
    refine ⟨?_, bt_R _ _⟩
    by_cases c4 : z + 16 ≤ j
    · rw [if_pos (show (z + 4 + 4 + 4 + 4 ≤ j ∧ j < z + 4 + 4 + 4 + 4 + ((4 : Nat) : Int)) by omega), if_pos (show (j - z) / 4 = 4 by omega)]
      congr 2
      omega
    · skip
      by_cases c3 : z + 12 ≤ j
      · rw [if_neg (show ¬ (z + 4 + 4 + 4 + 4 ≤ j ∧ j < z + 4 + 4 + 4 + 4 + ((4 : Nat) : Int)) by omega), if_pos (show (z + 4 + 4 + 4 ≤ j ∧ j < z + 4 + 4 + 4 + ((4 : Nat) : Int)) by omega), if_neg (show ¬ (j - z) / 4 = 4 by omega), if_pos (show (j - z) / 4 = 3 by omega)]
        congr 2
        omega
      · skip
        by_cases c2 : z + 8 ≤ j
        · rw [if_neg (show ¬ (z + 4 + 4 + 4 + 4 ≤ j ∧ j < z + 4 + 4 + 4 + 4 + ((4 : Nat) : Int)) by omega), if_neg (show ¬ (z + 4 + 4 + 4 ≤ j ∧ j < z + 4 + 4 + 4 + ((4 : Nat) : Int)) by omega), if_pos (show (z + 4 + 4 ≤ j ∧ j < z + 4 + 4 + ((4 : Nat) : Int)) by omega), if_neg (show ¬ (j - z) / 4 = 4 by omega), if_neg (show ¬ (j - z) / 4 = 3 by omega), if_pos (show (j - z) / 4 = 2 by omega)]
          congr 2
          omega
        · skip
          by_cases c1 : z + 4 ≤ j
          · rw [if_neg (show ¬ (z + 4 + 4 + 4 + 4 ≤ j ∧ j < z + 4 + 4 + 4 + 4 + ((4 : Nat) : Int)) by omega), if_neg (show ¬ (z + 4 + 4 + 4 ≤ j ∧ j < z + 4 + 4 + 4 + ((4 : Nat) : Int)) by omega), if_neg (show ¬ (z + 4 + 4 ≤ j ∧ j < z + 4 + 4 + ((4 : Nat) : Int)) by omega), if_pos (show (z + 4 ≤ j ∧ j < z + 4 + ((4 : Nat) : Int)) by omega), if_neg (show ¬ (j - z) / 4 = 4 by omega), if_neg (show ¬ (j - z) / 4 = 3 by omega), if_neg (show ¬ (j - z) / 4 = 2 by omega), if_pos (show (j - z) / 4 = 1 by omega)]
            congr 2
            omega
          · skip
            rw [if_neg (show ¬ (z + 4 + 4 + 4 + 4 ≤ j ∧ j < z + 4 + 4 + 4 + 4 + ((4 : Nat) : Int)) by omega), if_neg (show ¬ (z + 4 + 4 + 4 ≤ j ∧ j < z + 4 + 4 + 4 + ((4 : Nat) : Int)) by omega), if_neg (show ¬ (z + 4 + 4 ≤ j ∧ j < z + 4 + 4 + ((4 : Nat) : Int)) by omega), if_neg (show ¬ (z + 4 ≤ j ∧ j < z + 4 + ((4 : Nat) : Int)) by omega), if_pos (show (z ≤ j ∧ j < z + ((4 : Nat) : Int)) by omega), if_neg (show ¬ (j - z) / 4 = 4 by omega), if_neg (show ¬ (j - z) / 4 = 3 by omega), if_neg (show ¬ (j - z) / 4 = 2 by omega), if_neg (show ¬ (j - z) / 4 = 1 by omega), if_pos (show (j - z) / 4 = 0 by omega)]
            congr 2
            omega
  · rw [if_neg (show ¬ (z ≤ j ∧ j < z + ((20 : Nat) : Int)) from h0), if_neg (show ¬ (z + 4 + 4 + 4 + 4 ≤ j ∧ j < z + 4 + 4 + 4 + 4 + ((4 : Nat) : Int)) by omega), if_neg (show ¬ (z + 4 + 4 + 4 ≤ j ∧ j < z + 4 + 4 + 4 + ((4 : Nat) : Int)) by omega), if_neg (show ¬ (z + 4 + 4 ≤ j ∧ j < z + 4 + 4 + ((4 : Nat) : Int)) by omega), if_neg (show ¬ (z + 4 ≤ j ∧ j < z + 4 + ((4 : Nat) : Int)) by omega), if_neg (show ¬ (z ≤ j ∧ j < z + ((4 : Nat) : Int)) by omega)]
    exact h j j0 j1
/-- refusals counted -/
def RfR (rf x1 : Int → Int) : Prop := rf 0 = x1 1 ∧ rf 1 = x1 2 ∧ rf 2 = x1 3 ∧ rf 3 = x1 5 ∧ rf 4 = x1 6
theorem RfR.upR {rf x1 : Int → Int} (h : RfR rf x1) {k : Int} (hk : k = -1 ∨ k = -2 ∨ k = -3 ∨ k = -5 ∨ k = -6) : RfR (up rf (rix k) (rf (rix k) + 1)) (up x1 (0 - k) (x1 (0 - k) + 1)) := by
  obtain ⟨h1, h2, h3, h4, h5⟩ := h
  rcases hk with rfl | rfl | rfl | rfl | rfl
  all_goals
    unfold RfR
    refine ⟨?_, ?_, ?_, ?_, ?_⟩ <;> simp only [rix, up] <;> simp <;> omega
/-- a text laid where orders lie -/
theorem SI.lay {K C V : Int → Int} {N f : Int} {lc fo rn rl rp : Int} {rs rm rd tm : Int → Int} (h : SI K lc fo rn rl rp rs rm rd tm) (f0 : 0 ≤ f) (f1 : f ≤ 6) (n0 : 0 ≤ N) (n1 : N ≤ 400) : SI (lyK K C V N f) lc fo rn rl rp rs rm rd tm :=
  h.sameB (fun j j0 j1 => (lyK_at f0 f1 n0 n1).2.2 j (by omega) (by omega) (by omega))
theorem LB.lay6 {K C V : Int → Int} {N : Int} {lx : Nat → Option Nat} {ts : List TD} (h : LB K lx ts) (hk : K 24 ≤ 6) (n0 : 0 ≤ N) (n1 : N ≤ 400) (hC : ∀ k, 0 ≤ k → k < N → 0 ≤ C k ∧ C k ≤ 400) : LB (lyK K C V N 6) lx ts := by
  have hl := lyK_at (K := K) (C := C) (V := V) (f := 6) (by omega) (by omega) n0 n1
  obtain ⟨h1, h2, h3⟩ := h
  refine ⟨fun k k0 k1 => ?_, fun k k0 k1 => ?_, fun f a0 a1 => ?_⟩
  · by_cases c : 2400 ≤ k ∧ k < 2400 + N
    · have := (hl.2.1 (k - 2400) (by omega) (by omega)).1
      rw [show 33 + 400 * 6 + (k - 2400) = 33 + k by omega] at this
      rw [this]
      exact hC _ (by omega) (by omega)
    · rw [hl.2.2 (33 + k) (by omega) (by omega) (by omega)]
      exact h1 k k0 k1
  · by_cases c : k = 6
    · rw [c, hl.1]
      omega
    · rw [hl.2.2 (26 + k) (by omega) (by omega) (by omega)]
      exact h2 k k0 k1
  · rw [hl.2.2 24 (by omega) (by omega) (by omega)] at a1
    obtain ⟨j, t, b1, b2, b3⟩ := h3 f a0 a1
    exact ⟨j, t, b1, b2, b3.lay (by omega) (by omega) n0 n1 a0 (by omega) (by omega)⟩
/-- a law more -/
theorem LB.law {K C V : Int → Int} {N : Int} {lx : Nat → Option Nat} {ts : List TD} {t : TD} (h : LB K lx ts) (hX : LXV lx ts) (k0 : 0 ≤ K 24) (hk : K 24 < 6) (n0 : 0 ≤ N) (n1 : N ≤ 400) (hC : ∀ k, 0 ≤ k → k < N → 0 ≤ C k ∧ C k ≤ 400) (ht : LWok (lyK K C V N (K 24)) (K 24) t) : LB (up (lyK K C V N (K 24)) 24 (K 24 + 1)) (va_up lx (K 24).toNat (some ts.length)) (ts ++ [t]) := by
  have hl := lyK_at (K := K) (C := C) (V := V) (f := K 24) k0 (by omega) n0 n1
  obtain ⟨h1, h2, h3⟩ := h
  refine ⟨fun k a0 a1 => ?_, fun k a0 a1 => ?_, fun f a0 a1 => ?_⟩
  · rw [up_ne (by omega)]
    by_cases c : 400 * K 24 ≤ k ∧ k < 400 * K 24 + N
    · have := (hl.2.1 (k - 400 * K 24) (by omega) (by omega)).1
      rw [show 33 + 400 * K 24 + (k - 400 * K 24) = 33 + k by omega] at this
      rw [this]
      exact hC _ (by omega) (by omega)
    · rw [hl.2.2 (33 + k) (by omega) (by omega) (by omega)]
      exact h1 k a0 a1
  · rw [up_ne (by omega)]
    by_cases c : k = K 24
    · rw [c, hl.1]
      omega
    · rw [hl.2.2 (26 + k) (by omega) (by omega) (by omega)]
      exact h2 k a0 a1
  · rw [up_eq] at a1
    by_cases c : f = K 24
    · refine ⟨ts.length, t, ?_, ?_, ?_⟩
      · unfold va_up
        rw [if_pos (by rw [c])]
      · rw [List.getElem?_append_right (by omega)]
        simp
      · rw [c]
        exact ht.sameB k0 (by omega) (fun j j0 j1 => up_ne (by omega))
    · obtain ⟨j, t2, b1, b2, b3⟩ := h3 f a0 (by omega)
      refine ⟨j, t2, ?_, ?_, ?_⟩
      · unfold va_up
        rw [if_neg (by omega)]
        exact b1
      · rw [List.getElem?_append_left ((List.getElem?_eq_some_iff.mp b2).1)]
        exact b2
      · exact (b3.lay (f := K 24) k0 (by omega) n0 n1 a0 (by omega) c).sameB a0 (by omega) (fun j j0 j1 => up_ne (by omega))
