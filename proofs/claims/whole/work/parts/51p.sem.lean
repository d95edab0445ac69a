/-! PURE: what the reference tells of stored tokens is what was read of them -/
def rsl (o : Option Int) (g : Int) : Int × Int × Int := match o with
  | some v => (v, g, 0)
  | none => (0, g, 1)
abbrev dead (live br : Int) : Prop := b01 live ∧ b01 br ∧ (live = 0 ∨ br = 1)
def EvS (S' : Int → Int → Int → EV) (b : Int) (o : Option Int) (tk t : Int) : Prop := (∀ live br, dead live br → S' live (b + tk) br = some (0, b + t, br)) ∧ S' 1 (b + tk) 0 = some (rsl o (b + t)) ∧ ∀ v, o = some v → rgo v
def EP (S' : Int → Int → Int → EV) (b : Int) (wv : Int → Int → Int) (N : Int) (P : Int → Int → PR SXC) : Prop := ∀ (tk lv : Int) (a : SXC) (t l : Int), 1 ≤ tk → tk ≤ N → 0 ≤ lv → lv ≤ 50 → P tk lv = .inl (a, t, l) → EvS S' b (a.1 wv) tk t
/-- tokens as they are stored -/
def TkF (C V C' V' : Int → Int) (b N : Int) : Prop := (0 ≤ b ∧ b + N ≤ 2800 ∧ N ≤ 400) ∧ C N = 0 ∧ (∀ k, 0 ≤ k → k ≤ N → C' (b + k) = C k) ∧ (∀ k, 0 ≤ k → k < N → V' (b + k) = V k ∧ 0 ≤ V k ∧ V k ≤ 100000000)
theorem rsl_b {o : Option Int} {g : Int} : (rsl o g).2.2 = 0 ∨ (rsl o g).2.2 = 1 := by
  cases o
  · exact Or.inr rfl
  · exact Or.inl rfl
theorem rsl_g {o : Option Int} {g : Int} : (rsl o g).2.1 = g := by cases o <;> rfl
theorem rsl_r {o : Option Int} {g : Int} (h : ∀ v, o = some v → rgo v) : rgo (rsl o g).1 := by
  cases o with
  | none => show rgo 0; omega
  | some v => exact h v rfl
theorem rsl_1 {o : Option Int} {g h : Int} : (rsl o g).1 = (rsl o h).1 ∧ (rsl o g).2.2 = (rsl o h).2.2 := by cases o <;> exact ⟨rfl, rfl⟩
theorem ev_part {C V C' V' : Int → Int} {b N io fw lw : Int} {wv : Int → Int → Int} {S' : Int → Int → Int → EV} {S : Int → Int → PR SXC} (hT : TkF C V C' V' b N) (hio : (io = 0 ∧ fw = 9 ∧ lw = 16) ∨ (io = 1 ∧ fw = 14 ∧ lw = 20)) (hw : ∀ c k, fw ≤ c → c ≤ lw → rgo (wv c k)) (hG : GP N S) (hS : EP S' b wv N S) : EP (pE C' V' wv io S') b wv N (pP C V io fw lw S) := by
  intro tk lv a t l h1 h2 h3 h4 h
  obtain ⟨⟨hb0, hbN, hN4⟩, hNe, hC, hV⟩ := hT
  have hCt := hC tk (by omega) h2
  unfold pP at h
  by_cases c1 : C tk = 191
  · rw [if_pos c1] at h
    have hne : tk ≠ N := fun e => by rw [e, hNe] at c1; omega
    cases hq : S (tk + 1) lv with
    | inr t' => rw [hq] at h; cases h
    | inl q =>
      obtain ⟨a', t', l'⟩ := q
      rw [hq] at h
      dsimp only at h
      by_cases c2 : C t' = 193
      · rw [if_pos c2] at h
        cases h
        have hg := (hG (tk + 1) lv (by omega) (by omega) h3 h4).1 _ _ _ hq
        obtain ⟨e1, e2, e3⟩ := hS (tk + 1) lv _ _ _ (by omega) (by omega) h3 h4 hq
        refine ⟨fun live br hd => ?_, ?_, e3⟩
        · unfold pE
          rw [if_neg (by omega), hCt, if_pos c1, show b + tk + 1 = b + (tk + 1) by omega, e1 live br hd]
          dsimp only
          rw [if_pos ⟨by omega, by omega, hd.2.1⟩, show b + t' + 1 = b + (t' + 1) by omega]
        · unfold pE
          rw [if_neg (by omega), hCt, if_pos c1, show b + tk + 1 = b + (tk + 1) by omega, e2]
          dsimp only
          rw [if_pos ⟨by rw [rsl_g]; omega, rsl_r e3, rsl_b⟩]
          cases a.1 wv with
          | none => dsimp only [rsl]; rw [show b + t' + 1 = b + (t' + 1) by omega]
          | some v => dsimp only [rsl]; rw [show b + t' + 1 = b + (t' + 1) by omega]
      · rw [if_neg c2] at h; cases h
  · rw [if_neg c1] at h
    by_cases c2 : (C tk = 50 ∧ V tk ≤ 1000) ∨ (fw ≤ C tk ∧ C tk ≤ lw)
    · rw [if_pos c2] at h
      have hne : tk ≠ N := fun e => by rw [e, hNe] at c2; omega
      by_cases c3 : lv = 50
      · rw [if_pos c3] at h; cases h
      rw [if_neg c3] at h
      by_cases c4 : io = 1 ∧ (C tk = 14 ∨ C tk = 20)
      · rw [if_pos c4] at h
        by_cases c5 : C (tk + 1) = 50 ∧ 0 ≤ V (tk + 1) ∧ V (tk + 1) ≤ 19
        · rw [if_pos c5] at h
          cases h
          have hne1 : tk + 1 ≠ N := fun e => by rw [e, hNe] at c5; omega
          have hv1 := hV (tk + 1) (by omega) (by omega)
          have hwr := hw (C tk) (V (tk + 1)) (by omega) (by omega)
          refine ⟨fun live br hd => ?_, ?_, fun v hv => ?_⟩
          · unfold pE
            rw [if_neg (by omega), hCt, if_neg c1, if_pos c4, show b + tk + 1 = b + (tk + 1) by omega, hv1.1, if_neg (by omega), if_pos hd.2.2, show b + tk + 2 = b + (tk + 2) by omega]
          · unfold pE
            rw [if_neg (by omega), hCt, if_neg c1, if_pos c4, show b + tk + 1 = b + (tk + 1) by omega, hv1.1, if_neg (by omega), if_neg (by omega), if_pos hwr, show b + tk + 2 = b + (tk + 2) by omega]
            rfl
          · have hv2 : some (wv (C tk) (V (tk + 1))) = some v := hv
            cases hv2
            exact hwr
        · rw [if_neg c5] at h; cases h
      · rw [if_neg c4] at h
        cases h
        have hv0 := hV tk (by omega) (by omega)
        by_cases c5 : C tk = 50
        · have hr : rgo (V tk) := by omega
          rw [if_pos c5]
          refine ⟨fun live br hd => ?_, ?_, fun v hv => ?_⟩
          · unfold pE
            rw [if_neg (by omega), hCt, if_neg c1, if_neg c4, if_pos hd.2.2, show b + tk + 1 = b + (tk + 1) by omega]
          · unfold pE
            rw [if_neg (by omega), hCt, if_neg c1, if_neg c4, if_neg (by omega), if_pos c5, hv0.1, if_pos hr, show b + tk + 1 = b + (tk + 1) by omega]
            rfl
          · have hv2 : some (V tk) = some v := hv
            cases hv2
            exact hr
        · have hwr := hw (C tk) 0 (by omega) (by omega)
          rw [if_neg c5]
          refine ⟨fun live br hd => ?_, ?_, fun v hv => ?_⟩
          · unfold pE
            rw [if_neg (by omega), hCt, if_neg c1, if_neg c4, if_pos hd.2.2, show b + tk + 1 = b + (tk + 1) by omega]
          · unfold pE
            rw [if_neg (by omega), hCt, if_neg c1, if_neg c4, if_neg (by omega), if_neg c5, if_pos ⟨by omega, hwr⟩, show b + tk + 1 = b + (tk + 1) by omega]
            rfl
          · have hv2 : some (wv (C tk) 0) = some v := hv
            cases hv2
            exact hwr
    · rw [if_neg c2] at h; cases h
theorem bd_1 {live r : Int} : bd live r 1 = (0, 1) := by
  unfold bd
  by_cases h : live = 1 ∧ (1000000000 < r ∨ r < -1000000000)
  · rw [if_pos h, if_pos rfl]
  · rw [if_neg h, if_pos rfl]
theorem bd_0 {r : Int} : bd 1 r 0 = ((rsl (bdO r) 0).1, (rsl (bdO r) 0).2.2) := by
  unfold bd bdO
  by_cases h : 1000000000 < r ∨ r < -1000000000
  · simp [h, rsl]
  · simp [h, rsl]
theorem bdO_R {r v : Int} (h : bdO r = some v) : rgo v := by
  unfold bdO at h
  split at h
  · cases h
  · cases h; omega
theorem cmb_R {op x y v : Int} (h : cmb op x y = some v) : rgo v := by
  unfold cmb at h
  split at h
  · exact bdO_R h
  · split at h
    · exact bdO_R h
    · split at h
      · exact bdO_R h
      · split at h
        · cases h
        · split at h
          · exact bdO_R h
          · exact bdO_R h
theorem bn_R {op : Int} {e a : SXC} {wv : Int → Int → Int} {v : Int} (h : (bnX op e a).1 wv = some v) : rgo v := by
  have h2 : (e.1 wv).bind (fun x => (a.1 wv).bind (fun y => cmb op x y)) = some v := h
  cases he : e.1 wv with
  | none => rw [he] at h2; cases h2
  | some x =>
    rw [he] at h2
    have h3 : (a.1 wv).bind (fun y => cmb op x y) = some v := h2
    cases ha : a.1 wv with
    | none => rw [ha] at h3; cases h3
    | some y => rw [ha] at h3; exact cmb_R h3
theorem bn_n {op : Int} {e a : SXC} {wv : Int → Int → Int} (h : e.1 wv = none) : (bnX op e a).1 wv = none := by
  show (e.1 wv).bind _ = none
  rw [h]
  rfl
theorem bn_n2 {op x : Int} {e a : SXC} {wv : Int → Int → Int} (h : e.1 wv = some x) (h2 : a.1 wv = none) : (bnX op e a).1 wv = none := by
  show (e.1 wv).bind _ = none
  rw [h]
  show (a.1 wv).bind _ = none
  rw [h2]
  rfl
theorem bn_s {op x y : Int} {e a : SXC} {wv : Int → Int → Int} (h : e.1 wv = some x) (h2 : a.1 wv = some y) : (bnX op e a).1 wv = cmb op x y := by
  show (e.1 wv).bind _ = _
  rw [h]
  show (a.1 wv).bind _ = _
  rw [h2]
  rfl
theorem tC_dead {op live br : Int} (c : isM op) (hd : dead live br) : tC op live 0 0 br = (0, br) := by
  obtain ⟨hl, hb, h⟩ := hd
  rcases hl with rfl | rfl <;> rcases hb with rfl | rfl <;> rcases c with rfl | rfl | rfl <;> first | rfl | decide | (exfalso; omega)
theorem sC_dead {op live br : Int} (c : isA op) (hd : dead live br) : sC op live 0 0 br = (0, br) := by
  obtain ⟨hl, hb, h⟩ := hd
  rcases hl with rfl | rfl <;> rcases hb with rfl | rfl <;> rcases c with rfl | rfl <;> first | rfl | decide | (exfalso; omega)
theorem tC_dn {op x : Int} (c : isM op) : tC op 1 x 0 1 = (0, 1) := by
  rcases c with rfl | rfl | rfl
  · rw [tC_mul rfl]; exact bd_1
  · rw [tC_div1 rfl rfl (Or.inl rfl)]; exact bd_1
  · rw [tC_rem1 (by decide) (by decide) rfl (Or.inl rfl)]; exact bd_1
theorem sC_dn {op x : Int} (c : isA op) : sC op 1 x 0 1 = (0, 1) := bd_1
theorem tC_cmb {op x y : Int} (c : isM op) : tC op 1 x y 0 = ((rsl (cmb op x y) 0).1, (rsl (cmb op x y) 0).2.2) := by
  unfold cmb
  rcases c with rfl | rfl | rfl
  · rw [tC_mul rfl, if_neg (by decide), if_neg (by decide), if_pos rfl]; exact bd_0
  · rw [if_neg (by decide), if_neg (by decide), if_neg (by decide)]
    by_cases hy : y = 0
    · rw [tC_div1 rfl hy (Or.inr rfl), if_pos hy]; exact bd_1
    · rw [tC_div rfl hy, if_neg hy, if_pos rfl]; exact bd_0
  · rw [if_neg (by decide), if_neg (by decide), if_neg (by decide)]
    by_cases hy : y = 0
    · rw [tC_rem1 (by decide) (by decide) hy (Or.inr rfl), if_pos hy]; exact bd_1
    · rw [tC_rem (by decide) (by decide) hy, if_neg hy, if_neg (by decide)]; exact bd_0
theorem sC_cmb {op x y : Int} (c : isA op) : sC op 1 x y 0 = ((rsl (cmb op x y) 0).1, (rsl (cmb op x y) 0).2.2) := by
  unfold cmb
  rcases c with rfl | rfl
  · rw [sC_add rfl, if_pos rfl]; exact bd_0
  · rw [sC_sub (by decide), if_neg (by decide), if_pos rfl]; exact bd_0
theorem ev_loopT {C V C' V' : Int → Int} {b N : Int} {wv : Int → Int → Int} {P' : Int → Int → Int → EV} {P : Int → Int → PR SXC} (hT : TkF C V C' V' b N) (hG : GP N P) (hP : EP P' b wv N P) : ∀ (k k' : Nat) (e : SXC) (tk lv : Int) (a : SXC) (t l : Int), 1 ≤ tk → tk ≤ N → 0 ≤ lv → lv ≤ 50 → N - tk < (k' : Int) → (∀ v, e.1 wv = some v → rgo v) → pLp C P isM bnX k e tk lv = .inl (a, t, l) →
    (∀ live br, dead live br → tL C' P' live k' 0 (b + tk) br = some (0, b + t, br)) ∧ tL C' P' 1 k' (rsl (e.1 wv) 0).1 (b + tk) (rsl (e.1 wv) 0).2.2 = some (rsl (a.1 wv) (b + t)) ∧ ∀ v, a.1 wv = some v → rgo v
  | 0, k', e, tk, lv, a, t, l, h1, h2, h3, h4, h5, h6, h => by cases h
  | k + 1, k', e, tk, lv, a, t, l, h1, h2, h3, h4, h5, h6, h => by
    obtain ⟨j, rfl⟩ : ∃ j, k' = j + 1 := ⟨k' - 1, by omega⟩
    have hTT := hT
    obtain ⟨⟨hb0, hbN, hN4⟩, hNe, hC, hV⟩ := hTT
    have hCt := hC tk (by omega) h2
    simp only [pLp] at h
    by_cases c : isM (C tk)
    · rw [if_pos c] at h
      have hne : tk ≠ N := fun e => by rw [e, hNe] at c; omega
      cases hq : P (tk + 1) lv with
      | inr t' => rw [hq] at h; cases h
      | inl q =>
        obtain ⟨a1, t1, l1⟩ := q
        rw [hq] at h
        dsimp only at h
        have hg := (hG (tk + 1) lv (by omega) (by omega) h3 h4).1 _ _ _ hq
        obtain ⟨e1, e2, e3⟩ := hP (tk + 1) lv _ _ _ (by omega) (by omega) h3 h4 hq
        obtain ⟨i1, i2, i3⟩ := ev_loopT hT hG hP k j (bnX (C tk) e a1) t1 l1 a t l (by omega) (by omega) (by omega) (by omega) (by omega) (fun v hv => bn_R hv) h
        refine ⟨fun live br hd => ?_, ?_, i3⟩
        · unfold tL
          rw [if_neg (by omega), hCt, if_pos c, show b + tk + 1 = b + (tk + 1) by omega, e1 live br hd]
          dsimp only
          rw [tC_dead c hd, if_pos ⟨by omega, hd.2.1, by show rgo 0; omega⟩]
          exact i1 live br hd
        · unfold tL
          rw [if_neg (by omega), hCt, if_pos c, show b + tk + 1 = b + (tk + 1) by omega]
          cases he : e.1 wv with
          | none =>
            rw [bn_n he] at i2
            show (match P' 1 (b + (tk + 1)) 1 with
              | none => none
              | some q => if rgo q.1 ∧ (q.2.2 = 0 ∨ q.2.2 = 1) ∧ rgo (tC (C tk) 1 0 q.1 q.2.2).1 then tL C' P' 1 j (tC (C tk) 1 0 q.1 q.2.2).1 q.2.1 (tC (C tk) 1 0 q.1 q.2.2).2 else none) = _
            have hd : dead 1 1 := ⟨Or.inr rfl, Or.inr rfl, Or.inr rfl⟩
            rw [e1 1 1 hd]
            dsimp only
            rw [tC_dead c hd, if_pos ⟨by omega, Or.inr rfl, by show rgo 0; omega⟩]
            exact i2
          | some x =>
            show (match P' 1 (b + (tk + 1)) 0 with
              | none => none
              | some q => if rgo q.1 ∧ (q.2.2 = 0 ∨ q.2.2 = 1) ∧ rgo (tC (C tk) 1 x q.1 q.2.2).1 then tL C' P' 1 j (tC (C tk) 1 x q.1 q.2.2).1 q.2.1 (tC (C tk) 1 x q.1 q.2.2).2 else none) = _
            rw [e2]
            cases ha : a1.1 wv with
            | none =>
              rw [bn_n2 he ha] at i2
              dsimp only [rsl]
              rw [tC_dn c, if_pos ⟨by omega, Or.inr rfl, by show rgo 0; omega⟩]
              exact i2
            | some y =>
              rw [bn_s he ha] at i2
              show (if rgo y ∧ ((0 : Int) = 0 ∨ (0 : Int) = 1) ∧ rgo (tC (C tk) 1 x y 0).1 then tL C' P' 1 j (tC (C tk) 1 x y 0).1 (b + t1) (tC (C tk) 1 x y 0).2 else none) = _
              rw [tC_cmb c, if_pos ⟨e3 y ha, Or.inl rfl, rsl_r (fun v hv => cmb_R hv)⟩]
              exact i2
    · rw [if_neg c] at h
      cases h
      refine ⟨fun live br hd => ?_, ?_, h6⟩
      · unfold tL
        rw [if_neg (by omega), hCt, if_neg c]
      · unfold tL
        rw [if_neg (by omega), hCt, if_neg c]
        cases e.1 wv <;> rfl
theorem ev_VT {C V C' V' : Int → Int} {b N : Int} {wv : Int → Int → Int} {P' : Int → Int → Int → EV} {P : Int → Int → PR SXC} (hT : TkF C V C' V' b N) (hG : GP N P) (hP : EP P' b wv N P) : EP (tE C' P') b wv N (pLV C P isM bnX) := by
  intro tk lv a t l h1 h2 h3 h4 h
  unfold pLV at h
  cases hq : P tk lv with
  | inr t' => rw [hq] at h; cases h
  | inl q =>
    obtain ⟨a1, t1, l1⟩ := q
    rw [hq] at h
    dsimp only at h
    have hg := (hG tk lv h1 h2 h3 h4).1 _ _ _ hq
    obtain ⟨e1, e2, e3⟩ := hP tk lv _ _ _ h1 h2 h3 h4 hq
    obtain ⟨i1, i2, i3⟩ := ev_loopT hT hG hP 401 400 a1 t1 l1 a t l (by omega) (by omega) (by omega) (by omega) (by have := hT.1; omega) e3 h
    refine ⟨fun live br hd => ?_, ?_, i3⟩
    · unfold tE
      rw [e1 live br hd]
      dsimp only
      rw [if_pos ⟨by omega, hd.2.1⟩]
      exact i1 live br hd
    · unfold tE
      rw [e2]
      show (if rgo (rsl (a1.1 wv) (b + t1)).1 ∧ _ then tL C' P' 1 400 (rsl (a1.1 wv) (b + t1)).1 (rsl (a1.1 wv) (b + t1)).2.1 (rsl (a1.1 wv) (b + t1)).2.2 else none) = _
      rw [if_pos ⟨rsl_r e3, rsl_b⟩, rsl_g, (rsl_1 (h := 0)).1, (rsl_1 (h := 0)).2]
      exact i2
theorem ev_loopS {C V C' V' : Int → Int} {b N : Int} {wv : Int → Int → Int} {P' : Int → Int → Int → EV} {P : Int → Int → PR SXC} (hT : TkF C V C' V' b N) (hG : GP N P) (hP : EP P' b wv N P) : ∀ (k k' : Nat) (e : SXC) (tk lv : Int) (a : SXC) (t l : Int), 1 ≤ tk → tk ≤ N → 0 ≤ lv → lv ≤ 50 → N - tk < (k' : Int) → (∀ v, e.1 wv = some v → rgo v) → pLp C P isA bnX k e tk lv = .inl (a, t, l) →
    (∀ live br, dead live br → sL C' P' live k' 0 (b + tk) br = some (0, b + t, br)) ∧ sL C' P' 1 k' (rsl (e.1 wv) 0).1 (b + tk) (rsl (e.1 wv) 0).2.2 = some (rsl (a.1 wv) (b + t)) ∧ ∀ v, a.1 wv = some v → rgo v
  | 0, k', e, tk, lv, a, t, l, h1, h2, h3, h4, h5, h6, h => by cases h
  | k + 1, k', e, tk, lv, a, t, l, h1, h2, h3, h4, h5, h6, h => by
    obtain ⟨j, rfl⟩ : ∃ j, k' = j + 1 := ⟨k' - 1, by omega⟩
    have hTT := hT
    obtain ⟨⟨hb0, hbN, hN4⟩, hNe, hC, hV⟩ := hTT
    have hCt := hC tk (by omega) h2
    simp only [pLp] at h
    by_cases c : isA (C tk)
    · rw [if_pos c] at h
      have hne : tk ≠ N := fun e => by rw [e, hNe] at c; omega
      cases hq : P (tk + 1) lv with
      | inr t' => rw [hq] at h; cases h
      | inl q =>
        obtain ⟨a1, t1, l1⟩ := q
        rw [hq] at h
        dsimp only at h
        have hg := (hG (tk + 1) lv (by omega) (by omega) h3 h4).1 _ _ _ hq
        obtain ⟨e1, e2, e3⟩ := hP (tk + 1) lv _ _ _ (by omega) (by omega) h3 h4 hq
        obtain ⟨i1, i2, i3⟩ := ev_loopS hT hG hP k j (bnX (C tk) e a1) t1 l1 a t l (by omega) (by omega) (by omega) (by omega) (by omega) (fun v hv => bn_R hv) h
        refine ⟨fun live br hd => ?_, ?_, i3⟩
        · unfold sL
          rw [if_neg (by omega), hCt, if_pos c, show b + tk + 1 = b + (tk + 1) by omega, e1 live br hd]
          dsimp only
          rw [sC_dead c hd, if_pos ⟨by omega, hd.2.1, by show rgo 0; omega⟩]
          exact i1 live br hd
        · unfold sL
          rw [if_neg (by omega), hCt, if_pos c, show b + tk + 1 = b + (tk + 1) by omega]
          cases he : e.1 wv with
          | none =>
            rw [bn_n he] at i2
            show (match P' 1 (b + (tk + 1)) 1 with
              | none => none
              | some q => if rgo q.1 ∧ (q.2.2 = 0 ∨ q.2.2 = 1) ∧ rgo (sC (C tk) 1 0 q.1 q.2.2).1 then sL C' P' 1 j (sC (C tk) 1 0 q.1 q.2.2).1 q.2.1 (sC (C tk) 1 0 q.1 q.2.2).2 else none) = _
            have hd : dead 1 1 := ⟨Or.inr rfl, Or.inr rfl, Or.inr rfl⟩
            rw [e1 1 1 hd]
            dsimp only
            rw [sC_dead c hd, if_pos ⟨by omega, Or.inr rfl, by show rgo 0; omega⟩]
            exact i2
          | some x =>
            show (match P' 1 (b + (tk + 1)) 0 with
              | none => none
              | some q => if rgo q.1 ∧ (q.2.2 = 0 ∨ q.2.2 = 1) ∧ rgo (sC (C tk) 1 x q.1 q.2.2).1 then sL C' P' 1 j (sC (C tk) 1 x q.1 q.2.2).1 q.2.1 (sC (C tk) 1 x q.1 q.2.2).2 else none) = _
            rw [e2]
            cases ha : a1.1 wv with
            | none =>
              rw [bn_n2 he ha] at i2
              dsimp only [rsl]
              rw [sC_dn c, if_pos ⟨by omega, Or.inr rfl, by show rgo 0; omega⟩]
              exact i2
            | some y =>
              rw [bn_s he ha] at i2
              show (if rgo y ∧ ((0 : Int) = 0 ∨ (0 : Int) = 1) ∧ rgo (sC (C tk) 1 x y 0).1 then sL C' P' 1 j (sC (C tk) 1 x y 0).1 (b + t1) (sC (C tk) 1 x y 0).2 else none) = _
              rw [sC_cmb c, if_pos ⟨e3 y ha, Or.inl rfl, rsl_r (fun v hv => cmb_R hv)⟩]
              exact i2
    · rw [if_neg c] at h
      cases h
      refine ⟨fun live br hd => ?_, ?_, h6⟩
      · unfold sL
        rw [if_neg (by omega), hCt, if_neg c]
      · unfold sL
        rw [if_neg (by omega), hCt, if_neg c]
        cases e.1 wv <;> rfl
theorem ev_VS {C V C' V' : Int → Int} {b N : Int} {wv : Int → Int → Int} {P' : Int → Int → Int → EV} {P : Int → Int → PR SXC} (hT : TkF C V C' V' b N) (hG : GP N P) (hP : EP P' b wv N P) : EP (sV C' P') b wv N (pLV C P isA bnX) := by
  intro tk lv a t l h1 h2 h3 h4 h
  unfold pLV at h
  cases hq : P tk lv with
  | inr t' => rw [hq] at h; cases h
  | inl q =>
    obtain ⟨a1, t1, l1⟩ := q
    rw [hq] at h
    dsimp only at h
    have hg := (hG tk lv h1 h2 h3 h4).1 _ _ _ hq
    obtain ⟨e1, e2, e3⟩ := hP tk lv _ _ _ h1 h2 h3 h4 hq
    obtain ⟨i1, i2, i3⟩ := ev_loopS hT hG hP 401 400 a1 t1 l1 a t l (by omega) (by omega) (by omega) (by omega) (by have := hT.1; omega) e3 h
    refine ⟨fun live br hd => ?_, ?_, i3⟩
    · unfold sV
      rw [e1 live br hd]
      dsimp only
      rw [if_pos ⟨by omega, hd.2.1⟩]
      exact i1 live br hd
    · unfold sV
      rw [e2]
      show (if rgo (rsl (a1.1 wv) (b + t1)).1 ∧ _ then sL C' P' 1 400 (rsl (a1.1 wv) (b + t1)).1 (rsl (a1.1 wv) (b + t1)).2.1 (rsl (a1.1 wv) (b + t1)).2.2 else none) = _
      rw [if_pos ⟨rsl_r e3, rsl_b⟩, rsl_g, (rsl_1 (h := 0)).1, (rsl_1 (h := 0)).2]
      exact i2
theorem ev_S {C V C' V' : Int → Int} {b N io fw lw : Int} {wv : Int → Int → Int} (hT : TkF C V C' V' b N) (hio : (io = 0 ∧ fw = 9 ∧ lw = 16) ∨ (io = 1 ∧ fw = 14 ∧ lw = 20)) (hw : ∀ c k, fw ≤ c → c ≤ lw → rgo (wv c k)) : ∀ (m n : Nat), m ≤ n → EP (sE C' V' wv io n) b wv N (pS C V io fw lw m)
  | 0, n, hm => by intro tk lv a t l h1 h2 h3 h4 h; cases h
  | m + 1, 0, hm => by omega
  | m + 1, n + 1, hm => ev_VS hT (pLV_R hT.2.1 (by decide) (pP_R hT.2.1 (by omega) (pS_R hT.2.1 (by omega) m))) (ev_VT hT (pP_R hT.2.1 (by omega) (pS_R hT.2.1 (by omega) m)) (ev_part hT hio hw (pS_R hT.2.1 (by omega) m) (ev_S hT hio hw m n (by omega))))
/-! tests -/
def LR (o : Option Int) (r : EV) (g : Int) : Prop := match o with
  | some v => b01 v ∧ r = some (v, g, 0)
  | none => ∃ v, b01 v ∧ r = some (v, g, 1)
theorem LR.s {o : Option Int} {r : EV} {g v : Int} (h : LR o r g) (e : o = some v) : b01 v ∧ r = some (v, g, 0) := by subst e; exact h
theorem LR.n {o : Option Int} {r : EV} {g : Int} (h : LR o r g) (e : o = none) : ∃ v, b01 v ∧ r = some (v, g, 1) := by subst e; exact h
theorem LR.S {o : Option Int} {r : EV} {g v : Int} (e : o = some v) (h1 : b01 v) (h2 : r = some (v, g, 0)) : LR o r g := by subst e; exact ⟨h1, h2⟩
theorem LR.N {o : Option Int} {r : EV} {g v : Int} (e : o = none) (h1 : b01 v) (h2 : r = some (v, g, 1)) : LR o r g := by subst e; exact ⟨v, h1, h2⟩
def EvB (T' : Int → Int → Int → EV) (b : Int) (o : Option Int) (tk t : Int) : Prop := (∀ live br, dead live br → ∃ v, b01 v ∧ T' live (b + tk) br = some (v, b + t, br)) ∧ LR o (T' 1 (b + tk) 0) (b + t)
def EB (T' : Int → Int → Int → EV) (b : Int) (wv : Int → Int → Int) (N : Int) (P : Int → Int → PR TXC) : Prop := ∀ (tk lv : Int) (a : TXC) (t l : Int), 1 ≤ tk → tk ≤ N → 0 ≤ lv → lv ≤ 50 → P tk lv = .inl (a, t, l) → EvB T' b (a.1 wv) tk t
theorem cpX_e {op x y : Int} (c : op = 160 ∨ op = 162 ∨ op = 161) : (if (1 : Int) = 1 ∧ (0 : Int) = 0 ∧ ((op = 160 ∧ x < y) ∨ (op ≠ 160 ∧ op = 162 ∧ y < x) ∨ (op ≠ 160 ∧ op ≠ 162 ∧ x = y)) then (1 : Int) else 0) = cpX op x y := by
  unfold cpX
  rcases c with rfl | rfl | rfl <;> simp
theorem cpX_b {op x y : Int} : b01 (cpX op x y) := by
  unfold cpX
  split
  · exact ite01
  · split
    · exact ite01
    · exact ite01
theorem ev_po {C V C' V' : Int → Int} {b N : Int} {wv : Int → Int → Int} {S' T' : Int → Int → Int → EV} {S : Int → Int → PR SXC} {T : Int → Int → PR TXC} (hT : TkF C V C' V' b N) (hGS : GP N S) (hGT : GP N T) (hS : EP S' b wv N S) (hB : EB T' b wv N T) : EB (poE C' S' T') b wv N (pPb C S T) := by
  intro tk lv a t l h1 h2 h3 h4 h
  obtain ⟨⟨hb0, hbN, hN4⟩, hNe, hC, hV⟩ := hT
  have hCt := hC tk (by omega) h2
  unfold pPb at h
  by_cases c1 : C tk = 140
  · rw [if_pos c1] at h
    have hne : tk ≠ N := fun e => by rw [e, hNe] at c1; omega
    cases hq : T (tk + 1) lv with
    | inr t' => rw [hq] at h; cases h
    | inl q =>
      obtain ⟨a', t', l'⟩ := q
      rw [hq] at h
      dsimp only at h
      by_cases c2 : C t' = 141
      · rw [if_pos c2] at h
        cases h
        have hg := (hGT (tk + 1) lv (by omega) (by omega) h3 h4).1 _ _ _ hq
        obtain ⟨e1, e2⟩ := hB (tk + 1) lv _ _ _ (by omega) (by omega) h3 h4 hq
        refine ⟨fun live br hd => ?_, ?_⟩
        · obtain ⟨v, hv, e3⟩ := e1 live br hd
          refine ⟨v, hv, ?_⟩
          unfold poE
          rw [if_neg (by omega), hCt, if_pos c1, show b + tk + 1 = b + (tk + 1) by omega, e3]
          dsimp only
          rw [if_pos ⟨by omega, hv, hd.2.1⟩, show b + t' + 1 = b + (t' + 1) by omega]
        · unfold poE
          rw [if_neg (by omega), hCt, if_pos c1, show b + tk + 1 = b + (tk + 1) by omega]
          cases ho : a.1 wv with
          | none =>
            obtain ⟨v, hv, e3⟩ := e2.n ho
            refine LR.N rfl hv ?_
            rw [e3]
            dsimp only
            rw [if_pos ⟨by omega, hv, Or.inr rfl⟩, show b + t' + 1 = b + (t' + 1) by omega]
          | some v =>
            obtain ⟨hv, e3⟩ := e2.s ho
            refine LR.S rfl hv ?_
            rw [e3]
            dsimp only
            rw [if_pos ⟨by omega, hv, Or.inl rfl⟩, show b + t' + 1 = b + (t' + 1) by omega]
      · rw [if_neg c2] at h; cases h
  · rw [if_neg c1] at h
    cases hq : S tk lv with
    | inr t' => rw [hq] at h; cases h
    | inl q =>
      obtain ⟨a1, t1, l1⟩ := q
      rw [hq] at h
      dsimp only at h
      have hg := (hGS tk lv h1 h2 h3 h4).1 _ _ _ hq
      obtain ⟨e1, e2, e3⟩ := hS tk lv _ _ _ h1 h2 h3 h4 hq
      by_cases c2 : C t1 = 160 ∨ C t1 = 162 ∨ C t1 = 161
      · rw [if_pos c2] at h
        have hne : t1 ≠ N := fun e => by rw [e, hNe] at c2; omega
        have hC1 := hC t1 (by omega) (by omega)
        cases hr : S (t1 + 1) l1 with
        | inr t' => rw [hr] at h; cases h
        | inl r =>
          obtain ⟨a2, t2, l2⟩ := r
          rw [hr] at h
          cases h
          have hg2 := (hGS (t1 + 1) l1 (by omega) (by omega) (by omega) (by omega)).1 _ _ _ hr
          obtain ⟨f1, f2, f3⟩ := hS (t1 + 1) l1 _ _ _ (by omega) (by omega) (by omega) (by omega) hr
          refine ⟨fun live br hd => ?_, ?_⟩
          · unfold poE
            rw [if_neg (by omega), hCt, if_neg c1, e1 live br hd]
            dsimp only
            rw [if_pos ⟨by omega, by omega, hd.2.1⟩, show b + t1 + 1 = b + (t1 + 1) by omega, f1 live br hd]
            dsimp only
            rw [if_pos ⟨by omega, hd.2.1⟩]
            exact ⟨_, ite01, rfl⟩
          · unfold poE
            rw [if_neg (by omega), hCt, if_neg c1]
            cases ho : a1.1 wv with
            | none =>
              have hd : dead 1 1 := ⟨Or.inr rfl, Or.inr rfl, Or.inr rfl⟩
              have e2x : S' 1 (b + tk) 0 = some (0, b + t1, 1) := by rw [e2, ho]; rfl
              have hn : (cmX (C t1) a1 a2).1 wv = none := by show (a1.1 wv).bind _ = none; rw [ho]; rfl
              rw [e2x]
              dsimp only
              rw [if_pos ⟨by omega, by omega, Or.inr rfl⟩, show b + t1 + 1 = b + (t1 + 1) by omega, f1 1 1 hd]
              dsimp only
              rw [if_pos ⟨by omega, Or.inr rfl⟩]
              exact LR.N hn ite01 rfl
            | some x =>
              have hx := e3 x ho
              have e2x : S' 1 (b + tk) 0 = some (x, b + t1, 0) := by rw [e2, ho]; rfl
              rw [e2x]
              dsimp only
              rw [if_pos ⟨by omega, hx, Or.inl rfl⟩, show b + t1 + 1 = b + (t1 + 1) by omega]
              cases ho2 : a2.1 wv with
              | none =>
                have f2x : S' 1 (b + (t1 + 1)) 0 = some (0, b + t2, 1) := by rw [f2, ho2]; rfl
                have hn : (cmX (C t1) a1 a2).1 wv = none := by show (a1.1 wv).bind _ = none; rw [ho]; show (a2.1 wv).bind _ = none; rw [ho2]; rfl
                rw [f2x]
                dsimp only
                rw [if_pos ⟨by omega, Or.inr rfl⟩]
                exact LR.N hn ite01 rfl
              | some y =>
                have hy := f3 y ho2
                have f2x : S' 1 (b + (t1 + 1)) 0 = some (y, b + t2, 0) := by rw [f2, ho2]; rfl
                have hn : (cmX (C t1) a1 a2).1 wv = some (cpX (C t1) x y) := by show (a1.1 wv).bind _ = _; rw [ho]; show (a2.1 wv).bind _ = _; rw [ho2]; rfl
                rw [f2x]
                dsimp only
                rw [if_pos ⟨hy, Or.inl rfl⟩, hC1, cpX_e c2]
                exact LR.S hn cpX_b rfl
      · rw [if_neg c2] at h; cases h
theorem plL_go {C V C' V' : Int → Int} {b N : Int} {P' : Int → Int → Int → EV} (hT : TkF C V C' V' b N) {live br : Int} : ∀ (k k' : Nat) (par tk : Int), 1 ≤ tk → tk ≤ N → N - tk < (k' : Int) → N - tk < (k : Int) → b01 par → plL C' P' live br k' par (b + tk) = (match P' live (b + (pNo C k par tk).2) br with
      | none => none
      | some q => if b01 q.1 ∧ b01 q.2.2 then some ((if q.1 = (pNo C k par tk).1 then 0 else 1), q.2.1, q.2.2) else none) ∧ b01 (pNo C k par tk).1
  | 0, k', par, tk, h1, h2, h3, h4, h5 => by omega
  | k + 1, k', par, tk, h1, h2, h3, h4, h5 => by
    obtain ⟨j, rfl⟩ : ∃ j, k' = j + 1 := ⟨k' - 1, by omega⟩
    have hTT := hT
    obtain ⟨⟨hb0, hbN, hN4⟩, hNe, hC, hV⟩ := hTT
    have hCt := hC tk (by omega) h2
    by_cases c : C tk = 8
    · have hne : tk ≠ N := fun e => by rw [e, hNe] at c; omega
      have e1 : pNo C (k + 1) par tk = pNo C k (1 - par) (tk + 1) := if_pos c
      rw [e1, plL, if_neg (by omega), hCt, if_pos c, show b + tk + 1 = b + (tk + 1) by omega]
      exact plL_go hT k j (1 - par) (tk + 1) (by omega) (by omega) (by omega) (by omega) (by rcases h5 with rfl | rfl; exact Or.inr rfl; exact Or.inl rfl)
    · have e1 : pNo C (k + 1) par tk = (par, tk) := if_neg c
      rw [e1, plL, if_neg (by omega), hCt, if_neg c]
      exact ⟨rfl, h5⟩
theorem ev_plain {C V C' V' : Int → Int} {b N : Int} {wv : Int → Int → Int} {P' : Int → Int → Int → EV} {S : Int → Int → PR SXC} {T : Int → Int → PR TXC} (hT : TkF C V C' V' b N) (hB : EB P' b wv N (pPb C S T)) : EB (plV C' P') b wv N (pPl C S T) := by
  intro tk lv a t l h1 h2 h3 h4 h
  have hno := pNo_R (C := C) (N := N) hT.2.1 401 0 tk h2
  unfold pPl at h
  cases hq : pPb C S T (pNo C 401 0 tk).2 lv with
  | inr t' => rw [hq] at h; cases h
  | inl q =>
    obtain ⟨a1, t1, l1⟩ := q
    rw [hq] at h
    cases h
    obtain ⟨e1, e2⟩ := hB _ lv _ _ _ (by omega) hno.2 h3 h4 hq
    refine ⟨fun live br hd => ?_, ?_⟩
    · obtain ⟨v, hv, e3⟩ := e1 live br hd
      have hp := plL_go (P' := P') (live := live) (br := br) hT 401 400 0 tk h1 h2 (by have := hT.1; omega) (by have := hT.1; omega) (Or.inl rfl)
      unfold plV
      rw [hp.1, e3]
      dsimp only
      rw [if_pos ⟨hv, hd.2.1⟩]
      exact ⟨_, ite10, rfl⟩
    · have hp := plL_go (P' := P') (live := 1) (br := 0) hT 401 400 0 tk h1 h2 (by have := hT.1; omega) (by have := hT.1; omega) (Or.inl rfl)
      unfold plV
      rw [hp.1]
      cases ho : a1.1 wv with
      | none =>
        obtain ⟨v, hv, e3⟩ := e2.n ho
        rw [e3]
        have hi : (if b01 v ∧ b01 1 then some ((if v = (pNo C 401 0 tk).1 then (0 : Int) else 1), b + t1, (1 : Int)) else none) = some ((if v = (pNo C 401 0 tk).1 then 0 else 1), b + t1, 1) := if_pos ⟨hv, Or.inr rfl⟩
        refine LR.N ?_ ite10 hi
        split
        · show (a1.1 wv).bind _ = none
          rw [ho]; rfl
        · exact ho
      | some v =>
        obtain ⟨hv, e3⟩ := e2.s ho
        rw [e3]
        have hi : (if b01 v ∧ b01 0 then some ((if v = (pNo C 401 0 tk).1 then (0 : Int) else 1), b + t1, (0 : Int)) else none) = some ((if v = (pNo C 401 0 tk).1 then 0 else 1), b + t1, 0) := if_pos ⟨hv, Or.inl rfl⟩
        refine LR.S ?_ ite10 hi
        rcases hp.2 with hp2 | hp2
        · rw [hp2, if_neg (by decide), ho]
          rcases hv with rfl | rfl <;> rfl
        · rw [hp2, if_pos rfl]
          show (a1.1 wv).bind _ = _
          rw [ho]
          rcases hv with rfl | rfl <;> rfl
theorem ev_loopB {C V C' V' : Int → Int} {b N : Int} {wv : Int → Int → Int} {P' : Int → Int → Int → EV} {P : Int → Int → PR TXC} (hT : TkF C V C' V' b N) (hG : GP N P) (hP : EB P' b wv N P) : ∀ (k k' : Nat) (e : TXC) (tk lv : Int) (a : TXC) (t l : Int), 1 ≤ tk → tk ≤ N → 0 ≤ lv → lv ≤ 50 → N - tk < (k' : Int) → pLp C P isAnd (fun _ => anX) k e tk lv = .inl (a, t, l) →
    (∀ live br v, dead live br → b01 v → ∃ v', b01 v' ∧ boL C' P' live k' v (b + tk) br = some (v', b + t, br)) ∧ (∀ x, e.1 wv = some x → b01 x → LR (a.1 wv) (boL C' P' 1 k' x (b + tk) 0) (b + t)) ∧ (e.1 wv = none → a.1 wv = none)
  | 0, k', e, tk, lv, a, t, l, h1, h2, h3, h4, h5, h => by cases h
  | k + 1, k', e, tk, lv, a, t, l, h1, h2, h3, h4, h5, h => by
    obtain ⟨j, rfl⟩ : ∃ j, k' = j + 1 := ⟨k' - 1, by omega⟩
    have hTT := hT
    obtain ⟨⟨hb0, hbN, hN4⟩, hNe, hC, hV⟩ := hTT
    have hCt := hC tk (by omega) h2
    simp only [pLp] at h
    by_cases c : isAnd (C tk)
    · rw [if_pos c] at h
      have hne : tk ≠ N := fun e => by rw [e, hNe] at c; exact absurd c (by decide)
      cases hq : P (tk + 1) lv with
      | inr t' => rw [hq] at h; cases h
      | inl q =>
        obtain ⟨a1, t1, l1⟩ := q
        rw [hq] at h
        dsimp only at h
        have hg := (hG (tk + 1) lv (by omega) (by omega) h3 h4).1 _ _ _ hq
        obtain ⟨e1, e2⟩ := hP (tk + 1) lv _ _ _ (by omega) (by omega) h3 h4 hq
        obtain ⟨i1, i2, i3⟩ := ev_loopB hT hG hP k j (anX e a1) t1 l1 a t l (by omega) (by omega) (by omega) (by omega) (by omega) h
        have hmk : (anX e a1).1 wv = (e.1 wv).bind (fun x => if x = 0 then some 0 else a1.1 wv) := rfl
        refine ⟨fun live br v hd hv => ?_, fun x hx hx01 => ?_, fun hn => i3 (by rw [hmk, hn]; rfl)⟩
        · unfold boL
          have hd2 : dead (if live = 1 ∧ v = 1 then 1 else 0) br := ⟨ite01, hd.2.1, by
            rcases hd.2.2 with q | q
            · left; rw [if_neg (by omega)]
            · exact Or.inr q⟩
          obtain ⟨w, hw, e3⟩ := e1 _ br hd2
          rw [if_neg (by omega), hCt, if_pos c, show b + tk + 1 = b + (tk + 1) by omega, e3]
          dsimp only
          rw [if_pos ⟨hw, hd.2.1⟩]
          exact i1 live br _ hd ite01
        · unfold boL
          rw [if_neg (by omega), hCt, if_pos c, show b + tk + 1 = b + (tk + 1) by omega]
          by_cases cx : x = 1
          · subst cx
            rw [if_pos ⟨rfl, rfl⟩]
            have hmk2 : (anX e a1).1 wv = a1.1 wv := by rw [hmk, hx]; rfl
            cases ho : a1.1 wv with
            | none =>
              obtain ⟨w, hw, e3⟩ := e2.n ho
              rw [e3]
              dsimp only
              rw [if_pos ⟨hw, Or.inr rfl⟩]
              obtain ⟨v', hv', e4⟩ := i1 1 1 _ ⟨Or.inr rfl, Or.inr rfl, Or.inr rfl⟩ (ite01 (c := (1 : Int) = 1 ∧ w = 1))
              exact LR.N (i3 (by rw [hmk2, ho])) hv' e4
            | some y =>
              obtain ⟨hy, e3⟩ := e2.s ho
              rw [e3]
              dsimp only
              rw [if_pos ⟨hy, Or.inl rfl⟩]
              have hyy : (if (1 : Int) = 1 ∧ y = 1 then (1 : Int) else 0) = y := by rcases hy with rfl | rfl <;> rfl
              rw [hyy]
              exact i2 y (by rw [hmk2, ho]) hy
          · have cx2 : x = 0 := by rcases hx01 with q | q <;> omega
            subst cx2
            rw [if_neg (by omega)]
            obtain ⟨w, hw, e3⟩ := e1 0 0 ⟨Or.inl rfl, Or.inl rfl, Or.inl rfl⟩
            rw [e3]
            dsimp only
            rw [if_pos ⟨hw, Or.inl rfl⟩]
            have hyy : (if (0 : Int) = 1 ∧ w = 1 then (1 : Int) else 0) = 0 := by rcases hw with rfl | rfl <;> rfl
            rw [hyy]
            exact i2 0 (by rw [hmk, hx]; rfl) (by decide)
    · rw [if_neg c] at h
      cases h
      refine ⟨fun live br v hd hv => ⟨v, hv, ?_⟩, fun x hx hx01 => LR.S hx hx01 ?_, fun hn => hn⟩
      · unfold boL
        rw [if_neg (by omega), hCt, if_neg c]
      · unfold boL
        rw [if_neg (by omega), hCt, if_neg c]
theorem ev_VB {C V C' V' : Int → Int} {b N : Int} {wv : Int → Int → Int} {P' : Int → Int → Int → EV} {P : Int → Int → PR TXC} (hT : TkF C V C' V' b N) (hG : GP N P) (hP : EB P' b wv N P) : EB (boV C' P') b wv N (pLV C P isAnd (fun _ => anX)) := by
  intro tk lv a t l h1 h2 h3 h4 h
  unfold pLV at h
  cases hq : P tk lv with
  | inr t' => rw [hq] at h; cases h
  | inl q =>
    obtain ⟨a1, t1, l1⟩ := q
    rw [hq] at h
    dsimp only at h
    have hg := (hG tk lv h1 h2 h3 h4).1 _ _ _ hq
    obtain ⟨e1, e2⟩ := hP tk lv _ _ _ h1 h2 h3 h4 hq
    obtain ⟨i1, i2, i3⟩ := ev_loopB hT hG hP 401 400 a1 t1 l1 a t l (by omega) (by omega) (by omega) (by omega) (by have := hT.1; omega) h
    refine ⟨fun live br hd => ?_, ?_⟩
    · obtain ⟨v, hv, e3⟩ := e1 live br hd
      unfold boV
      rw [e3]
      dsimp only
      rw [if_pos ⟨hv, hd.2.1⟩]
      exact i1 live br v hd hv
    · unfold boV
      cases ho : a1.1 wv with
      | none =>
        obtain ⟨w, hw, e3⟩ := e2.n ho
        rw [e3]
        dsimp only
        rw [if_pos ⟨hw, Or.inr rfl⟩]
        obtain ⟨v', hv', e4⟩ := i1 1 1 w ⟨Or.inr rfl, Or.inr rfl, Or.inr rfl⟩ hw
        exact LR.N (i3 ho) hv' e4
      | some y =>
        obtain ⟨hy, e3⟩ := e2.s ho
        rw [e3]
        dsimp only
        rw [if_pos ⟨hy, Or.inl rfl⟩]
        exact i2 y ho hy
theorem ev_loopO {C V C' V' : Int → Int} {b N : Int} {wv : Int → Int → Int} {P' : Int → Int → Int → EV} {P : Int → Int → PR TXC} (hT : TkF C V C' V' b N) (hG : GP N P) (hP : EB P' b wv N P) : ∀ (k k' : Nat) (e : TXC) (tk lv : Int) (a : TXC) (t l : Int), 1 ≤ tk → tk ≤ N → 0 ≤ lv → lv ≤ 50 → N - tk < (k' : Int) → pLp C P isOr (fun _ => orX) k e tk lv = .inl (a, t, l) →
    (∀ live br v, dead live br → b01 v → ∃ v', b01 v' ∧ teL C' P' live k' v (b + tk) br = some (v', b + t, br)) ∧ (∀ x, e.1 wv = some x → b01 x → LR (a.1 wv) (teL C' P' 1 k' x (b + tk) 0) (b + t)) ∧ (e.1 wv = none → a.1 wv = none)
  | 0, k', e, tk, lv, a, t, l, h1, h2, h3, h4, h5, h => by cases h
  | k + 1, k', e, tk, lv, a, t, l, h1, h2, h3, h4, h5, h => by
    obtain ⟨j, rfl⟩ : ∃ j, k' = j + 1 := ⟨k' - 1, by omega⟩
    have hTT := hT
    obtain ⟨⟨hb0, hbN, hN4⟩, hNe, hC, hV⟩ := hTT
    have hCt := hC tk (by omega) h2
    simp only [pLp] at h
    by_cases c : isOr (C tk)
    · rw [if_pos c] at h
      have hne : tk ≠ N := fun e => by rw [e, hNe] at c; exact absurd c (by decide)
      cases hq : P (tk + 1) lv with
      | inr t' => rw [hq] at h; cases h
      | inl q =>
        obtain ⟨a1, t1, l1⟩ := q
        rw [hq] at h
        dsimp only at h
        have hg := (hG (tk + 1) lv (by omega) (by omega) h3 h4).1 _ _ _ hq
        obtain ⟨e1, e2⟩ := hP (tk + 1) lv _ _ _ (by omega) (by omega) h3 h4 hq
        obtain ⟨i1, i2, i3⟩ := ev_loopO hT hG hP k j (orX e a1) t1 l1 a t l (by omega) (by omega) (by omega) (by omega) (by omega) h
        have hmk : (orX e a1).1 wv = (e.1 wv).bind (fun x => if x = 1 then some 1 else a1.1 wv) := rfl
        refine ⟨fun live br v hd hv => ?_, fun x hx hx01 => ?_, fun hn => i3 (by rw [hmk, hn]; rfl)⟩
        · unfold teL
          have hd2 : dead (if live = 1 ∧ v = 0 then 1 else 0) br := ⟨ite01, hd.2.1, by
            rcases hd.2.2 with q | q
            · left; rw [if_neg (by omega)]
            · exact Or.inr q⟩
          obtain ⟨w, hw, e3⟩ := e1 _ br hd2
          rw [if_neg (by omega), hCt, if_pos c, show b + tk + 1 = b + (tk + 1) by omega, e3]
          dsimp only
          rw [if_pos ⟨hw, hd.2.1⟩]
          exact i1 live br _ hd ite01
        · unfold teL
          rw [if_neg (by omega), hCt, if_pos c, show b + tk + 1 = b + (tk + 1) by omega]
          by_cases cx : x = 0
          · subst cx
            rw [if_pos ⟨rfl, rfl⟩]
            have hmk2 : (orX e a1).1 wv = a1.1 wv := by rw [hmk, hx]; rfl
            cases ho : a1.1 wv with
            | none =>
              obtain ⟨w, hw, e3⟩ := e2.n ho
              rw [e3]
              dsimp only
              rw [if_pos ⟨hw, Or.inr rfl⟩]
              obtain ⟨v', hv', e4⟩ := i1 1 1 _ ⟨Or.inr rfl, Or.inr rfl, Or.inr rfl⟩ (ite01 (c := (0 : Int) = 1 ∨ w = 1))
              exact LR.N (i3 (by rw [hmk2, ho])) hv' e4
            | some y =>
              obtain ⟨hy, e3⟩ := e2.s ho
              rw [e3]
              dsimp only
              rw [if_pos ⟨hy, Or.inl rfl⟩]
              have hyy : (if (0 : Int) = 1 ∨ y = 1 then (1 : Int) else 0) = y := by rcases hy with rfl | rfl <;> rfl
              rw [hyy]
              exact i2 y (by rw [hmk2, ho]) hy
          · have cx2 : x = 1 := by rcases hx01 with q | q <;> omega
            subst cx2
            rw [if_neg (by omega)]
            obtain ⟨w, hw, e3⟩ := e1 0 0 ⟨Or.inl rfl, Or.inl rfl, Or.inl rfl⟩
            rw [e3]
            dsimp only
            rw [if_pos ⟨hw, Or.inl rfl⟩]
            have hyy : (if (1 : Int) = 1 ∨ w = 1 then (1 : Int) else 0) = 1 := by rcases hw with rfl | rfl <;> rfl
            rw [hyy]
            exact i2 1 (by rw [hmk, hx]; rfl) (by decide)
    · rw [if_neg c] at h
      cases h
      refine ⟨fun live br v hd hv => ⟨v, hv, ?_⟩, fun x hx hx01 => LR.S hx hx01 ?_, fun hn => hn⟩
      · unfold teL
        rw [if_neg (by omega), hCt, if_neg c]
      · unfold teL
        rw [if_neg (by omega), hCt, if_neg c]
theorem ev_VO {C V C' V' : Int → Int} {b N : Int} {wv : Int → Int → Int} {P' : Int → Int → Int → EV} {P : Int → Int → PR TXC} (hT : TkF C V C' V' b N) (hG : GP N P) (hP : EB P' b wv N P) : EB (teV C' P') b wv N (pLV C P isOr (fun _ => orX)) := by
  intro tk lv a t l h1 h2 h3 h4 h
  unfold pLV at h
  cases hq : P tk lv with
  | inr t' => rw [hq] at h; cases h
  | inl q =>
    obtain ⟨a1, t1, l1⟩ := q
    rw [hq] at h
    dsimp only at h
    have hg := (hG tk lv h1 h2 h3 h4).1 _ _ _ hq
    obtain ⟨e1, e2⟩ := hP tk lv _ _ _ h1 h2 h3 h4 hq
    obtain ⟨i1, i2, i3⟩ := ev_loopO hT hG hP 401 400 a1 t1 l1 a t l (by omega) (by omega) (by omega) (by omega) (by have := hT.1; omega) h
    refine ⟨fun live br hd => ?_, ?_⟩
    · obtain ⟨v, hv, e3⟩ := e1 live br hd
      unfold teV
      rw [e3]
      dsimp only
      rw [if_pos ⟨hv, hd.2.1⟩]
      exact i1 live br v hd hv
    · unfold teV
      cases ho : a1.1 wv with
      | none =>
        obtain ⟨w, hw, e3⟩ := e2.n ho
        rw [e3]
        dsimp only
        rw [if_pos ⟨hw, Or.inr rfl⟩]
        obtain ⟨v', hv', e4⟩ := i1 1 1 w ⟨Or.inr rfl, Or.inr rfl, Or.inr rfl⟩ hw
        exact LR.N (i3 ho) hv' e4
      | some y =>
        obtain ⟨hy, e3⟩ := e2.s ho
        rw [e3]
        dsimp only
        rw [if_pos ⟨hy, Or.inl rfl⟩]
        exact i2 y ho hy
theorem ev_T {C V C' V' : Int → Int} {b N io fw lw : Int} {wv : Int → Int → Int} (hT : TkF C V C' V' b N) (hio : (io = 0 ∧ fw = 9 ∧ lw = 16) ∨ (io = 1 ∧ fw = 14 ∧ lw = 20)) (hw : ∀ c k, fw ≤ c → c ≤ lw → rgo (wv c k)) (n : Nat) : ∀ (m m' : Nat), m ≤ m' → m ≤ n → EB (tsE C' (sE C' V' wv io n) m') b wv N (pT C V io fw lw m)
  | 0, m', hm, hn => by intro tk lv a t l h1 h2 h3 h4 h; cases h
  | m + 1, 0, hm, hn => by omega
  | m + 1, m' + 1, hm, hn => by
    have hf : 0 < fw := by omega
    have g1 := pS_R (C := C) (V := V) (io := io) (fw := fw) (lw := lw) hT.2.1 hf (m + 1)
    have g2 := pT_R (C := C) (V := V) (io := io) (fw := fw) (lw := lw) hT.2.1 hf m
    have g3 := pPl_R (C := C) hT.2.1 g1 g2
    exact ev_VO hT (pLV_R hT.2.1 (by decide) g3) (ev_VB hT g3 (ev_plain hT (ev_po hT g1 g2 (ev_S hT hio hw (m + 1) n hn) (ev_T hT hio hw n m m' (by omega) (by omega)))))
