/-! PURE: chains of clauses, texts laid -/
def CH (P : Int → Int → PR CXC) (N : Int) : List CXC → Int → Int → Prop
  | [], tk, _ => tk = N + 1
  | q :: qs, tk, lv => ∃ t l, P tk lv = .inl (q, t, l) ∧ (0 ≤ tk ∧ tk < t ∧ t ≤ N) ∧ (0 ≤ lv ∧ lv ≤ 50) ∧ CH P N qs (t + 1) l
theorem ch_mo {C V : Int → Int} {N io fw lw : Int} (hNe : C N = 0) (hf : 0 < fw) : ∀ (k : Nat) (n : Int) (cs0 : List CXC) (tk lv : Int) (cs : List CXC) (t l : Int), 1 ≤ tk → tk ≤ N → 0 ≤ lv → lv ≤ 50 → pMo C (pOne C V io fw lw) k n cs0 tk lv = .inl (cs, t, l) → ¬ t < N → ∃ qs, cs = cs0 ++ qs ∧ CH (pOne C V io fw lw) N qs (tk + 1) lv
  | 0, n, cs0, tk, lv, cs, t, l, h1, h2, h3, h4, h, h6 => by cases h
  | k + 1, n, cs0, tk, lv, cs, t, l, h1, h2, h3, h4, h, h6 => by
    simp only [pMo] at h
    by_cases c : C tk = 159
    · rw [if_pos c] at h
      have hne : tk ≠ N := fun e => by rw [e, hNe] at c; omega
      by_cases c2 : n = 12
      · rw [if_pos c2] at h; cases h
      rw [if_neg c2] at h
      cases hq : pOne C V io fw lw (tk + 1) lv with
      | inr t' => rw [hq] at h; cases h
      | inl q =>
        obtain ⟨q1, t1, l1⟩ := q
        rw [hq] at h
        dsimp only at h
        have hg := (pOne_R (C := C) (V := V) (io := io) (fw := fw) (lw := lw) hNe hf (tk + 1) lv (by omega) (by omega) h3 h4).1 _ _ _ hq
        obtain ⟨qs, e1, e2⟩ := ch_mo hNe hf k (n + 1) (cs0 ++ [q1]) t1 l1 cs t l (by omega) (by omega) (by omega) (by omega) h h6
        refine ⟨q1 :: qs, ?_, t1, l1, hq, by omega, by omega, e2⟩
        rw [e1, List.append_assoc]
        rfl
    · rw [if_neg c] at h
      cases h
      exact ⟨[], (List.append_nil _).symm, show tk + 1 = N + 1 by omega⟩
theorem ch_rd {C V : Int → Int} {N io fw lw : Int} (hN0 : 0 ≤ N) (hNe : C N = 0) (hf : 0 < fw) {cs : List CXC} {t l : Int} (h : pRd C V N io fw lw = .inl (cs, t, l)) : CH (pOne C V io fw lw) N cs 0 0 := by
  unfold pRd at h
  cases hq : pOne C V io fw lw 0 0 with
  | inr t' => rw [hq] at h; cases h
  | inl q =>
    obtain ⟨q1, t1, l1⟩ := q
    rw [hq] at h
    dsimp only at h
    have hg := (pOne_R (C := C) (V := V) (io := io) (fw := fw) (lw := lw) hNe hf 0 0 (by omega) (by omega) (by omega) (by omega)).1 _ _ _ hq
    cases hr : pMo C (pOne C V io fw lw) 13 1 [q1] t1 l1 with
    | inr t' => rw [hr] at h; cases h
    | inl r =>
      obtain ⟨cs1, t2, l2⟩ := r
      rw [hr] at h
      dsimp only at h
      by_cases c : t2 < N
      · rw [if_pos c] at h; cases h
      rw [if_neg c] at h
      have hz : cs1 = cs := (Prod.mk.inj (Sum.inl.inj h)).1
      subst hz
      obtain ⟨qs, e1, e2⟩ := ch_mo hNe hf 13 1 [q1] t1 l1 cs1 t2 l2 (by omega) (by omega) (by omega) (by omega) hr c
      rw [e1]
      exact ⟨t1, l1, hq, by omega, by omega, e2⟩
theorem ord_h {C V : Int → Int} {S : Int → Int → PR SXC} {T : Int → Int → PR TXC} {tk lv : Int} {q : CXC} {t l : Int} (h : pOrd C V S T tk lv = .inl (q, t, l)) : CXh 1 q := by
  have tm : ∀ (hd : Int) (a b : Option SXC) (t2 l2 : Int), pTm C V T hd a b t2 l2 = .inl (q, t, l) → q.1 = hd ∧ q.2.1 = a ∧ q.2.2.1 = b ∧ 1 ≤ q.2.2.2.1 ∧ q.2.2.2.1 ≤ 20 := by
    intro hd a b t2 l2 hP
    have key : ∀ (m t3 : Int), pTail C T hd a b m t3 l2 = .inl (q, t, l) → (1 ≤ m ∧ m ≤ 20) → q.1 = hd ∧ q.2.1 = a ∧ q.2.2.1 = b ∧ 1 ≤ q.2.2.2.1 ∧ q.2.2.2.1 ≤ 20 := by
      intro m t3 hP3 hm
      rcases pTail_inv hP3 with ⟨c, e⟩ | ⟨c, x, t4, l4, e1, e2⟩
      · have z := (Prod.mk.inj e).1
        subst z
        exact ⟨rfl, rfl, rfl, hm⟩
      · have z := (Prod.mk.inj e2).1
        subst z
        exact ⟨rfl, rfl, rfl, hm⟩
    rcases pTm_inv hP with ⟨c, c2, e⟩ | ⟨c, e⟩
    · exact key _ _ e c2.2
    · exact key _ _ e (by omega)
  unfold CXh
  rw [if_pos rfl]
  rcases pOrd_inv h with ⟨c, e⟩ | ⟨c, e⟩ | ⟨c, a, t1, l1, e1, e⟩ | ⟨c, e⟩
  · obtain ⟨a, t1, l1, e1, c1, a2, t2, l2, e2, e3⟩ := pTwo_inv e
    obtain ⟨k1, k2, k3, k4⟩ := tm _ _ _ _ _ e3
    exact ⟨Or.inl ⟨Or.inl k1, by rw [k2]; rfl, by rw [k3]; rfl⟩, k4⟩
  · obtain ⟨a, t1, l1, e1, c1, a2, t2, l2, e2, e3⟩ := pTwo_inv e
    obtain ⟨k1, k2, k3, k4⟩ := tm _ _ _ _ _ e3
    exact ⟨Or.inl ⟨Or.inr k1, by rw [k2]; rfl, by rw [k3]; rfl⟩, k4⟩
  · obtain ⟨k1, k2, k3, k4⟩ := tm _ _ _ _ _ e
    exact ⟨Or.inr (Or.inl ⟨k1, by rw [k2]; rfl, k3⟩), k4⟩
  · obtain ⟨k1, k2, k3, k4⟩ := tm _ _ _ _ _ e
    exact ⟨Or.inr (Or.inr ⟨k1, k2, k3⟩), k4⟩
theorem onO_no {q : CXC} {S : OS} (h : ¬ tstV q (ow S.1 S.2.2.2.1 S.2.2.2.2) = some 1) : onO q S = some S := if_neg h
theorem onO_br {q : CXC} {S : OS} (h : tstV q (ow S.1 S.2.2.2.1 S.2.2.2.2) = some 1) (h2 : ¬ ((su1 q (ow S.1 S.2.2.2.1 S.2.2.2.2)).isSome = true ∧ (su2 q (ow S.1 S.2.2.2.1 S.2.2.2.2)).isSome = true)) : onO q S = none := by
  unfold onO
  rw [if_pos h]
  cases h1 : su1 q (ow S.1 S.2.2.2.1 S.2.2.2.2) with
  | none => rfl
  | some v1 => cases h3 : su2 q (ow S.1 S.2.2.2.1 S.2.2.2.2) with
    | none => rfl
    | some v2 => exact absurd ⟨by rw [h1]; rfl, by rw [h3]; rfl⟩ h2
theorem onO_ob {q : CXC} {S : OS} {y0 y1 : Int} (hh : CXh 1 q) (h : tstV q (ow S.1 S.2.2.2.1 S.2.2.2.2) = some 1) (h2 : (su1 q (ow S.1 S.2.2.2.1 S.2.2.2.2)).isSome = true ∧ (su2 q (ow S.1 S.2.2.2.1 S.2.2.2.2)).isSome = true) (e1 : ∀ v, q.2.1.isSome = true → su1 q (ow S.1 S.2.2.2.1 S.2.2.2.2) = some v → y0 = v) (e2 : ∀ v, q.2.2.1.isSome = true → su2 q (ow S.1 S.2.2.2.1 S.2.2.2.2) = some v → y1 = v) : onO q S = (match obK q.1 y0 y1 S with
      | some T => some (T.1, T.2.1, T.2.2.1, T.2.2.2.1 + 1, T.2.2.2.2)
      | none => none) := by
  unfold onO
  rw [if_pos h]
  cases h1 : su1 q (ow S.1 S.2.2.2.1 S.2.2.2.2) with
  | none => rw [h1] at h2; cases h2.1
  | some v1 => cases h3 : su2 q (ow S.1 S.2.2.2.1 S.2.2.2.2) with
    | none => rw [h3] at h2; cases h2.2
    | some v2 =>
      dsimp only
      have e : obK q.1 v1 v2 S = obK q.1 y0 y1 S := by
        unfold CXh at hh
        rw [if_pos rfl] at hh
        rcases hh.1 with ⟨c, s1, s2⟩ | ⟨c, s1, s2⟩ | ⟨c, s1, s2⟩
        · rw [e1 v1 s1 h1, e2 v2 s2 h3]
        · rw [e1 v1 s1 h1]
          unfold obK
          rw [if_pos c, if_pos c]
        · unfold obK
          have n1 : ¬ q.1 = 23 := by omega
          have n2 : ¬ q.1 = 24 := by omega
          simp only [if_neg n1, if_neg n2, if_pos c]
      rw [e]
      cases obK q.1 y0 y1 S <;> rfl
theorem lyK_at {K C V : Int → Int} {N f : Int} (f0 : 0 ≤ f) (f1 : f ≤ 6) (n0 : 0 ≤ N) (n1 : N ≤ 400) : lyK K C V N f (26 + f) = N ∧ (∀ k, 0 ≤ k → k < N → lyK K C V N f (33 + 400 * f + k) = C k ∧ lyK K C V N f (2833 + 400 * f + k) = V k) ∧ ∀ j, j ≠ 26 + f → ¬ (33 + 400 * f ≤ j ∧ j < 33 + 400 * f + N) → ¬ (2833 + 400 * f ≤ j ∧ j < 2833 + 400 * f + N) → lyK K C V N f j = K j := by
  unfold lyK cpy
  refine ⟨?_, fun k k0 k1 => ⟨?_, ?_⟩, fun j j1 j2 j3 => ?_⟩
  · rw [if_neg (by omega), if_neg (by omega), up_eq]
  · rw [if_neg (by omega), if_pos (by omega)]
    congr 1
    omega
  · rw [if_pos (by omega)]
    congr 1
    omega
  · rw [if_neg j3, if_neg j2, up_ne j1]
theorem lay_TkF {K C V : Int → Int} {N f : Int} (f0 : 0 ≤ f) (f1 : f ≤ 6) (n0 : 0 ≤ N) (n1 : N ≤ 400) (hNe : C N = 0) (hv : ∀ k, 0 ≤ k → k < N → 0 ≤ V k ∧ V k ≤ 100000000) : TkF C V (cdA (lyK K C V N f) (400 * f + N)) (vlA (lyK K C V N f)) (400 * f) N := by
  have hl := lyK_at (K := K) (C := C) (V := V) f0 f1 n0 n1
  refine ⟨⟨by omega, by omega, n1⟩, hNe, fun k k0 k1 => ?_, fun k k0 k1 => ⟨?_, hv k k0 k1⟩⟩
  · unfold cdA
    by_cases c : k < N
    · rw [if_pos (by omega), show 33 + (400 * f + k) = 33 + 400 * f + k by omega]
      exact (hl.2.1 k k0 c).1
    · rw [if_neg (by omega), show k = N by omega, hNe]
  · rw [vlA_at (by omega) (by omega), show 2833 + (400 * f + k) = 2833 + 400 * f + k by omega]
    exact (hl.2.1 k k0 k1).2
theorem LWok.lay {K C V : Int → Int} {N f f2 : Int} {t : TD} (h : LWok K f2 t) (f0 : 0 ≤ f) (f1 : f ≤ 6) (n0 : 0 ≤ N) (n1 : N ≤ 400) (g0 : 0 ≤ f2) (g1 : f2 ≤ 5) (hne : f2 ≠ f) : LWok (lyK K C V N f) f2 t := by
  have hl := lyK_at (K := K) (C := C) (V := V) f0 f1 n0 n1
  obtain ⟨C2, V2, cs, t', l, h1, h2, h3, h4⟩ := h
  obtain ⟨⟨a1, a2, a3⟩, b1, b2, b3⟩ := h3
  have e26 : lyK K C V N f (26 + f2) = K (26 + f2) := hl.2.2 _ (by omega) (by omega) (by omega)
  refine ⟨C2, V2, cs, t', l, by rw [e26]; exact h1, by rw [e26]; exact h2, ?_, h4⟩
  rw [e26]
  refine ⟨⟨a1, a2, a3⟩, b1, fun k k0 k1 => ?_, fun k k0 k1 => ⟨?_, (b3 k k0 k1).2⟩⟩
  · rw [← b2 k k0 k1]
    unfold cdA
    by_cases c : 0 ≤ 400 * f2 + k ∧ 400 * f2 + k < 400 * f2 + K (26 + f2)
    · rw [if_pos c, if_pos c]
      exact hl.2.2 _ (by omega) (by omega) (by omega)
    · rw [if_neg c, if_neg c]
  · rw [← (b3 k k0 k1).1, vlA_at (by omega) (by omega), vlA_at (by omega) (by omega)]
    exact hl.2.2 _ (by omega) (by omega) (by omega)
/-- a law that is read anew -/
theorem LWok.new {K C V : Int → Int} {N f t' l : Int} {t : TD} {cs : List CXC} (f0 : 0 ≤ f) (f1 : f ≤ 5) (n0 : 0 ≤ N) (n1 : N ≤ 400) (hNe : C N = 0) (hv : ∀ k, 0 ≤ k → k < N → 0 ≤ V k ∧ V k ≤ 100000000) (hp : pRd C V N 0 9 16 = .inl (cs, t', l)) (hX : TxR 256 t.2.2.1 t.2.2.2.1 t.2.2.2.2.1 t.2.2.2.2.2.1 t.2.2.2.2.2.2.1 t.2.2.2.2.2.2.2.1 t.2.2.2.2.2.2.2.2 0 0 cs t.2.1) (hl : t.1 = (cs.length : Int)) (hB : TdB t) : LWok (lyK K C V N f) f t := by
  have hly := lyK_at (K := K) (C := C) (V := V) f0 (show f ≤ 6 by omega) n0 n1
  refine ⟨C, V, cs, t', l, by rw [hly.1]; exact hp, by rw [hly.1]; exact n0, ?_, hX, hl, hB⟩
  rw [hly.1]
  exact lay_TkF f0 (by omega) n0 n1 hNe hv
/-- all that stands in the reference's row, from its laws -/
theorem KOK_of {K : Int → Int} (h : KR K) (h1 : ∀ k, 0 ≤ k → k < 2800 → 0 ≤ K (33 + k) ∧ K (33 + k) ≤ 400) (h2 : ∀ k, 0 ≤ k → k ≤ 6 → 0 ≤ K (26 + k) ∧ K (26 + k) ≤ 400) (h3 : ∀ f, 0 ≤ f → f < K 24 → ∃ t, LWok K f t) : KOK K :=
  ⟨h, h1, h2, fun f f0 f1 => by obtain ⟨t, ht⟩ := h3 f f0 f1; exact ht.f⟩
