/-! PURE: what the class's stack tells of steps is what was read -/
def Mc (st vl wd : Int → Int) (sz p top : Int) (sk : Int → Int) (sp : Int) : MO := mach st vl wd (sz - p).toNat p top sk sp
def At (st vl : Int → Int) (p : Int) (l : List (Int × Int)) : Prop := ∀ (i : Nat) (q : Int × Int), l[i]? = some q → st (p + i) = q.1 ∧ vl (p + i) = q.2
theorem At.hd {st vl : Int → Int} {p : Int} {q : Int × Int} {l : List (Int × Int)} (h : At st vl p (q :: l)) : st p = q.1 ∧ vl p = q.2 := by
  have := h 0 q rfl
  rwa [show p + ((0 : Nat) : Int) = p by omega] at this
theorem At.tl {st vl : Int → Int} {p : Int} {q : Int × Int} {l : List (Int × Int)} (h : At st vl p (q :: l)) : At st vl (p + 1) l := by
  intro i r hr
  have := h (i + 1) r (by simpa using hr)
  rwa [show p + ((i + 1 : Nat) : Int) = p + 1 + (i : Int) by omega] at this
theorem At.le {st vl : Int → Int} {p : Int} {l1 l2 : List (Int × Int)} (h : At st vl p (l1 ++ l2)) : At st vl p l1 := by
  intro i r hr
  refine h i r ?_
  rw [List.getElem?_append_left (List.getElem?_eq_some_iff.mp hr).1]
  exact hr
theorem At.ri {st vl : Int → Int} {p : Int} {l1 l2 : List (Int × Int)} (h : At st vl p (l1 ++ l2)) : At st vl (p + l1.length) l2 := by
  intro i r hr
  have := h (l1.length + i) r (by rw [List.getElem?_append_right (by omega), show l1.length + i - l1.length = i by omega]; exact hr)
  rwa [show p + ((l1.length + i : Nat) : Int) = p + (l1.length : Int) + (i : Int) by omega] at this
section MC
variable {st vl wd : Int → Int} {sz p top sp : Int} {sk : Int → Int}
theorem Mc_go (h1 : p < sz) (h2 : sp ≤ p) (h3 : tkn (st p) ≤ top) (h4 : top < 51) : Mc st vl wd sz p top sk sp = (if st p = 46 then (if rgo (sk (top - 1)) then some (sk (top - 1), 0) else none)
    else if st p = 110 then (if rgo (vl p) then Mc st vl wd sz (p + 1) (top + 1) (up sk top (vl p)) sp else none)
    else if st p = 119 then (if (0 ≤ vl p ∧ vl p < 52) ∧ rgo (wd (vl p)) then Mc st vl wd sz (p + 1) (top + 1) (up sk top (wd (vl p))) sp else none)
    else if st p = 33 then (if b01 (sk (top - 1)) then Mc st vl wd sz (p + 1) top (up sk (top - 1) (1 - sk (top - 1))) sp else none)
    else if st p = 124 ∨ st p = 38 then (if b01 (sk (top - 1)) ∧ R32 (vl p) then (if sk (top - 1) = (if st p = 124 then 1 else 0) then Mc st vl wd sz (p + 1) top sk (vl p) else Mc st vl wd sz (p + 1) (top - 1) sk sp) else none)
    else if rgo (sk (top - 2)) ∧ rgo (sk (top - 1)) then (if 1000000000 < cmbJ (st p) (sk (top - 2)) (sk (top - 1)) ∨ cmbJ (st p) (sk (top - 2)) (sk (top - 1)) < -1000000000 then some (0, 1) else Mc st vl wd sz (p + 1) (top - 1) (up sk (top - 2) (cmbJ (st p) (sk (top - 2)) (sk (top - 1)))) sp)
    else none) := by
  unfold Mc
  rw [show (sz - p).toNat = (sz - (p + 1)).toNat + 1 by omega]
  simp only [mach]
  rw [if_neg (by omega), if_neg (by omega)]
theorem Mc_n (h1 : p < sz) (h2 : sp ≤ p) (h3 : 0 ≤ top) (h4 : top < 51) (e : st p = 110) (hv : rgo (vl p)) : Mc st vl wd sz p top sk sp = Mc st vl wd sz (p + 1) (top + 1) (up sk top (vl p)) sp := by
  rw [Mc_go h1 h2 (by rw [e]; exact h3) h4, e, if_neg (by decide), if_pos rfl, if_pos hv]
theorem Mc_w (h1 : p < sz) (h2 : sp ≤ p) (h3 : 0 ≤ top) (h4 : top < 51) (e : st p = 119) (hv : 0 ≤ vl p ∧ vl p < 52) (hr : rgo (wd (vl p))) : Mc st vl wd sz p top sk sp = Mc st vl wd sz (p + 1) (top + 1) (up sk top (wd (vl p))) sp := by
  rw [Mc_go h1 h2 (by rw [e]; exact h3) h4, e, if_neg (by decide), if_neg (by decide), if_pos rfl, if_pos ⟨hv, hr⟩]
theorem Mc_not (h1 : p < sz) (h2 : sp ≤ p) (h3 : 1 ≤ top) (h4 : top < 51) (e : st p = 33) (hv : b01 (sk (top - 1))) : Mc st vl wd sz p top sk sp = Mc st vl wd sz (p + 1) top (up sk (top - 1) (1 - sk (top - 1))) sp := by
  rw [Mc_go h1 h2 (by rw [e]; exact h3) h4, e, if_neg (by decide), if_neg (by decide), if_neg (by decide), if_pos rfl, if_pos hv]
theorem Mc_jmp (h1 : p < sz) (h2 : sp ≤ p) (h3 : 1 ≤ top) (h4 : top < 51) (e : st p = 124 ∨ st p = 38) (hv : b01 (sk (top - 1))) (hr : R32 (vl p)) : Mc st vl wd sz p top sk sp = (if sk (top - 1) = (if st p = 124 then 1 else 0) then Mc st vl wd sz (p + 1) top sk (vl p) else Mc st vl wd sz (p + 1) (top - 1) sk sp) := by
  rw [Mc_go h1 h2 (by rcases e with e | e <;> rw [e] <;> exact h3) h4, if_neg (by omega), if_neg (by omega), if_neg (by omega), if_neg (by omega), if_pos e, if_pos ⟨hv, hr⟩]
abbrev isB (c : Int) : Prop := c = 43 ∨ c = 45 ∨ c = 42 ∨ c = 47 ∨ c = 37 ∨ c = 60 ∨ c = 62 ∨ c = 61
theorem Mc_bin (h1 : p < sz) (h2 : sp ≤ p) (h3 : 2 ≤ top) (h4 : top < 51) (e : isB (st p)) (ha : rgo (sk (top - 2))) (hb_ : rgo (sk (top - 1))) : Mc st vl wd sz p top sk sp = (if 1000000000 < cmbJ (st p) (sk (top - 2)) (sk (top - 1)) ∨ cmbJ (st p) (sk (top - 2)) (sk (top - 1)) < -1000000000 then some (0, 1) else Mc st vl wd sz (p + 1) (top - 1) (up sk (top - 2) (cmbJ (st p) (sk (top - 2)) (sk (top - 1)))) sp) := by
  rw [Mc_go h1 h2 (by have := tkn_R (st p); omega) h4, if_neg (by omega), if_neg (by omega), if_neg (by omega), if_neg (by omega), if_neg (by omega), if_pos ⟨ha, hb_⟩]
theorem Mc_end (h1 : p < sz) (h2 : sp ≤ p) (h3 : 1 ≤ top) (h4 : top < 51) (e : st p = 46) (hv : rgo (sk (top - 1))) : Mc st vl wd sz p top sk sp = some (sk (top - 1), 0) := by
  rw [Mc_go h1 h2 (by rw [e]; exact h3) h4, if_pos e, if_pos hv]
theorem Mc_skip : ∀ (n : Nat) {p : Int}, sp - p = (n : Int) → sp ≤ sz → Mc st vl wd sz p top sk sp = Mc st vl wd sz sp top sk sp
  | 0, p, h, h2 => by rw [show p = sp by omega]
  | n + 1, p, h, h2 => by
    rw [← Mc_skip n (p := p + 1) (by omega) h2]
    unfold Mc
    rw [show (sz - p).toNat = (sz - (p + 1)).toNat + 1 by omega]
    simp only [mach]
    rw [if_pos (by omega)]
end MC
/-- a sum, a test, as steps -/
def MS (st vl wd : Int → Int) (sz : Int) (o : Option Int) (l : List (Int × Int)) (n : Int) : Prop := (∀ v, o = some v → rgo v) ∧ ∀ (p top : Int) (sk : Int → Int) (sp : Int), 0 ≤ top → top + n ≤ 50 → sp ≤ p → At st vl p l → p + (l.length : Int) ≤ sz → (∀ v, o = some v → ∃ sk', (∀ j, j < top → sk' j = sk j) ∧ sk' top = v ∧ Mc st vl wd sz p top sk sp = Mc st vl wd sz (p + (l.length : Int)) (top + 1) sk' sp) ∧ (o = none → Mc st vl wd sz p top sk sp = some (0, 1))
def MT (st vl wd : Int → Int) (sz : Int) (o : Option Int) (L : Int → List (Int × Int)) (n : Int) : Prop := (∀ v, o = some v → b01 v) ∧ ∀ (p top : Int) (sk : Int → Int) (sp : Int), 0 ≤ p → 0 ≤ top → top + n ≤ 50 → sp ≤ p → At st vl p (L p) → p + ((L p).length : Int) ≤ sz → (∀ v, o = some v → ∃ sk' sp', sp' ≤ p + ((L p).length : Int) ∧ (∀ j, j < top → sk' j = sk j) ∧ sk' top = v ∧ Mc st vl wd sz p top sk sp = Mc st vl wd sz (p + ((L p).length : Int)) (top + 1) sk' sp') ∧ (o = none → Mc st vl wd sz p top sk sp = some (0, 1))
theorem MS_num {st vl wd : Int → Int} {sz v : Int} (hv : rgo v) : MS st vl wd sz (some v) [(110, v)] 1 := by
  refine ⟨fun w hw => by cases hw; exact hv, fun p top sk sp h1 h2 h3 h4 h5 => ⟨fun w hw => ?_, fun q => by cases q⟩⟩
  cases hw
  have ha := h4.hd
  dsimp only at ha
  simp only [List.length_singleton] at h5 ⊢
  refine ⟨up sk top v, fun j hj => up_ne (by omega), up_eq, ?_⟩
  rw [Mc_n (by omega) h3 h1 (by omega) ha.1 (by rw [ha.2]; exact hv), ha.2]
  rfl
theorem MS_wd {st vl wd : Int → Int} {sz i v : Int} (hi : 0 ≤ i ∧ i < 52) (e : wd i = v) (hv : rgo v) : MS st vl wd sz (some v) [(119, i)] 1 := by
  refine ⟨fun w hw => by cases hw; exact hv, fun p top sk sp h1 h2 h3 h4 h5 => ⟨fun w hw => ?_, fun q => by cases q⟩⟩
  cases hw
  have ha := h4.hd
  dsimp only at ha
  simp only [List.length_singleton] at h5 ⊢
  refine ⟨up sk top v, fun j hj => up_ne (by omega), up_eq, ?_⟩
  rw [Mc_w (by omega) h3 h1 (by omega) ha.1 (by rw [ha.2]; exact hi) (by rw [ha.2, e]; exact hv), ha.2, e]
  rfl
theorem cmbJ_e {op x y : Int} (c : isA op ∨ isM op) (hx : rgo x) : (if 1000000000 < cmbJ (op - 100) x y ∨ cmbJ (op - 100) x y < -1000000000 then none else some (cmbJ (op - 100) x y)) = cmb op x y := by
  unfold cmb cmbJ bdO
  rcases c with (rfl | rfl) | (rfl | rfl | rfl)
  · rfl
  · rfl
  · rfl
  · have h := rg_div (b := y) hx
    by_cases hy : y = 0
    · simp [hy]
    · simp [hy]
  · by_cases hy : y = 0
    · simp [hy]
    · simp [hy]
theorem MS_bin {st vl wd : Int → Int} {sz op n1 n2 : Int} {o1 o2 : Option Int} {l1 l2 : List (Int × Int)} (h1 : MS st vl wd sz o1 l1 n1) (h2 : MS st vl wd sz o2 l2 n2) (m1 : 1 ≤ n1) (m2 : 1 ≤ n2) (c : isA op ∨ isM op) : MS st vl wd sz (o1.bind (fun x => o2.bind (fun y => cmb op x y))) (l1 ++ l2 ++ [(op - 100, 0)]) (n1 + n2) := by
  refine ⟨fun v hv => ?_, fun p top sk sp g1 g2 g3 g4 g5 => ?_⟩
  · cases o1 with
    | none => cases hv
    | some x => cases o2 with
      | none => cases hv
      | some y => exact cmb_R hv
  simp only [List.length_append, List.length_singleton] at g5 ⊢
  obtain ⟨a1, a2⟩ := h1.2 p top sk sp g1 (by omega) g3 g4.le.le (by omega)
  cases o1 with
  | none => exact ⟨fun v hv => (by cases hv), fun _ => a2 rfl⟩
  | some x =>
    obtain ⟨sk1, b1, b2, b3⟩ := a1 x rfl
    obtain ⟨c1, c2⟩ := h2.2 (p + (l1.length : Int)) (top + 1) sk1 sp (by omega) (by omega) (by omega) g4.le.ri (by omega)
    cases o2 with
    | none => exact ⟨fun v hv => (by cases hv), fun _ => by rw [b3]; exact c2 rfl⟩
    | some y =>
      obtain ⟨sk2, d1, d2, d3⟩ := c1 y rfl
      have hx := h1.1 x rfl
      have hy := h2.1 y rfl
      have ha := g4.ri.hd
      simp only [List.length_append] at ha
      have e0 : sk2 top = x := by rw [d1 top (by omega), b2]
      have hp : p + ((l1.length + l2.length : Nat) : Int) = p + (l1.length : Int) + (l2.length : Int) := by omega
      rw [hp] at ha
      have hM := Mc_bin (st := st) (vl := vl) (wd := wd) (sz := sz) (p := p + (l1.length : Int) + (l2.length : Int)) (top := top + 1 + 1) (sk := sk2) (sp := sp) (by omega) (by omega) (by omega) (by omega) (by rw [ha.1]; omega) (by rw [show top + 1 + 1 - 2 = top by omega, e0]; exact hx) (by rw [show top + 1 + 1 - 1 = top + 1 by omega, d2]; exact hy)
      rw [show top + 1 + 1 - 2 = top by omega, show top + 1 + 1 - 1 = top + 1 by omega, d2, e0, ha.1] at hM
      have hJ := cmbJ_e (op := op) (x := x) (y := y) c hx
      show (∀ v, cmb op x y = some v → _) ∧ (cmb op x y = none → _)
      rw [← hJ, b3, d3, hM]
      by_cases hc : 1000000000 < cmbJ (op - 100) x y ∨ cmbJ (op - 100) x y < -1000000000
      · rw [if_pos hc, if_pos hc]
        exact ⟨fun v hv => (by cases hv), fun _ => rfl⟩
      · rw [if_neg hc, if_neg hc]
        refine ⟨fun v hv => ?_, fun q => by cases q⟩
        cases hv
        refine ⟨up sk2 top (cmbJ (op - 100) x y), fun j hj => ?_, up_eq, ?_⟩
        · rw [up_ne (by omega), d1 j (by omega), b1 j hj]
        · rw [show p + ((l1.length + l2.length + 1 : Nat) : Int) = p + (l1.length : Int) + (l2.length : Int) + 1 by omega]
theorem MT_cmp {st vl wd : Int → Int} {sz op n1 n2 : Int} {o1 o2 : Option Int} {l1 l2 : List (Int × Int)} (h1 : MS st vl wd sz o1 l1 n1) (h2 : MS st vl wd sz o2 l2 n2) (m1 : 1 ≤ n1) (m2 : 1 ≤ n2) (c : op = 160 ∨ op = 162 ∨ op = 161) : MT st vl wd sz (o1.bind (fun x => o2.bind (fun y => some (cpX op x y)))) (fun _ => l1 ++ l2 ++ [(op - 100, 0)]) (n1 + n2) := by
  refine ⟨fun v hv => ?_, fun p top sk sp g0 g1 g2 g3 g4 g5 => ?_⟩
  · cases o1 with
    | none => cases hv
    | some x => cases o2 with
      | none => cases hv
      | some y => cases hv; exact cpX_b
  simp only [List.length_append, List.length_singleton] at g5 ⊢
  obtain ⟨a1, a2⟩ := h1.2 p top sk sp g1 (by omega) g3 g4.le.le (by omega)
  cases o1 with
  | none => exact ⟨fun v hv => (by cases hv), fun _ => a2 rfl⟩
  | some x =>
    obtain ⟨sk1, b1, b2, b3⟩ := a1 x rfl
    obtain ⟨c1, c2⟩ := h2.2 (p + (l1.length : Int)) (top + 1) sk1 sp (by omega) (by omega) (by omega) g4.le.ri (by omega)
    cases o2 with
    | none => exact ⟨fun v hv => (by cases hv), fun _ => by rw [b3]; exact c2 rfl⟩
    | some y =>
      obtain ⟨sk2, d1, d2, d3⟩ := c1 y rfl
      have hx := h1.1 x rfl
      have hy := h2.1 y rfl
      have ha := g4.ri.hd
      simp only [List.length_append] at ha
      have e0 : sk2 top = x := by rw [d1 top (by omega), b2]
      have hp : p + ((l1.length + l2.length : Nat) : Int) = p + (l1.length : Int) + (l2.length : Int) := by omega
      rw [hp] at ha
      have hM := Mc_bin (st := st) (vl := vl) (wd := wd) (sz := sz) (p := p + (l1.length : Int) + (l2.length : Int)) (top := top + 1 + 1) (sk := sk2) (sp := sp) (by omega) (by omega) (by omega) (by omega) (by rw [ha.1]; omega) (by rw [show top + 1 + 1 - 2 = top by omega, e0]; exact hx) (by rw [show top + 1 + 1 - 1 = top + 1 by omega, d2]; exact hy)
      rw [show top + 1 + 1 - 2 = top by omega, show top + 1 + 1 - 1 = top + 1 by omega, d2, e0, ha.1] at hM
      have hJ : cmbJ (op - 100) x y = cpX op x y := by
        unfold cmbJ cpX
        rcases c with rfl | rfl | rfl <;> rfl
      have hb01 := cpX_b (op := op) (x := x) (y := y)
      rw [hJ, if_neg (by omega)] at hM
      refine ⟨fun v hv => ?_, fun q => by cases q⟩
      cases hv
      refine ⟨up sk2 top (cpX op x y), sp, by omega, fun j hj => ?_, up_eq, ?_⟩
      · rw [up_ne (by omega), d1 j (by omega), b1 j hj]
      · rw [b3, d3, hM, show p + ((l1.length + l2.length + 1 : Nat) : Int) = p + (l1.length : Int) + (l2.length : Int) + 1 by omega]
theorem MT_not {st vl wd : Int → Int} {sz n : Int} {o1 : Option Int} {L : Int → List (Int × Int)} (h1 : MT st vl wd sz o1 L n) (m1 : 1 ≤ n) : MT st vl wd sz (o1.bind (fun x => some (1 - x))) (fun p => L p ++ [(33, 0)]) n := by
  refine ⟨fun v hv => ?_, fun p top sk sp g0 g1 g2 g3 g4 g5 => ?_⟩
  · cases o1 with
    | none => cases hv
    | some x =>
      cases hv
      rcases h1.1 x rfl with rfl | rfl
      · exact Or.inr rfl
      · exact Or.inl rfl
  simp only [List.length_append, List.length_singleton] at g5 ⊢
  obtain ⟨a1, a2⟩ := h1.2 p top sk sp g0 g1 g2 g3 g4.le (by omega)
  cases o1 with
  | none => exact ⟨fun v hv => (by cases hv), fun _ => a2 rfl⟩
  | some x =>
    obtain ⟨sk1, sp1, b0, b1, b2, b3⟩ := a1 x rfl
    have hx := h1.1 x rfl
    have ha := g4.ri.hd
    refine ⟨fun v hv => ?_, fun q => by cases q⟩
    cases hv
    have hM := Mc_not (st := st) (vl := vl) (wd := wd) (sz := sz) (p := p + ((L p).length : Int)) (top := top + 1) (sk := sk1) (sp := sp1) (by omega) b0 (by omega) (by omega) ha.1 (by rw [show top + 1 - 1 = top by omega, b2]; exact hx)
    rw [show top + 1 - 1 = top by omega, b2] at hM
    refine ⟨up sk1 top (1 - x), sp1, by omega, fun j hj => ?_, up_eq, ?_⟩
    · rw [up_ne (by omega), b1 j hj]
    · rw [b3, hM, show p + (((L p).length + 1 : Nat) : Int) = p + ((L p).length : Int) + 1 by omega]
theorem MT_or {st vl wd : Int → Int} {sz n1 n2 : Int} (hsz : sz ≤ 1000) {o1 o2 : Option Int} {L1 L2 : Int → List (Int × Int)} (h1 : MT st vl wd sz o1 L1 n1) (h2 : MT st vl wd sz o2 L2 n2) (m1 : 1 ≤ n1) (m2 : 1 ≤ n2) : MT st vl wd sz (o1.bind (fun x => if x = 1 then some 1 else o2)) (fun p => L1 p ++ (124, p + (L1 p).length + 1 + (L2 (p + (L1 p).length + 1)).length) :: L2 (p + (L1 p).length + 1)) (n1 + n2) := by
  refine ⟨fun v hv => ?_, fun p top sk sp g0 g1 g2 g3 g4 g5 => ?_⟩
  · cases o1 with
    | none => cases hv
    | some x =>
      have hv2 : (if x = 1 then some 1 else o2) = some v := hv
      split at hv2
      · cases hv2; decide
      · exact h2.1 v hv2
  simp only [List.length_append, List.length_cons] at g5 ⊢
  obtain ⟨a1, a2⟩ := h1.2 p top sk sp g0 g1 (by omega) g3 g4.le (by omega)
  cases o1 with
  | none => exact ⟨fun v hv => (by cases hv), fun _ => a2 rfl⟩
  | some x =>
    obtain ⟨sk1, sp1, b0, b1, b2, b3⟩ := a1 x rfl
    have hx := h1.1 x rfl
    have ha := g4.ri.hd
    have ht := g4.ri.tl
    generalize hl2 : (L2 (p + ((L1 p).length : Int) + 1)).length = len2 at *
    dsimp only at ha
    have hM := Mc_jmp (st := st) (vl := vl) (wd := wd) (sz := sz) (p := p + ((L1 p).length : Int)) (top := top + 1) (sk := sk1) (sp := sp1) (by omega) b0 (by omega) (by omega) (by rw [ha.1]; decide) (by rw [show top + 1 - 1 = top by omega, b2]; exact hx) (by rw [ha.2]; omega)
    rw [show top + 1 - 1 = top by omega, b2, ha.1, ha.2] at hM
    have he : (if (124 : Int) = 124 then (1 : Int) else 0) = 1 := by decide
    rw [he] at hM
    have hend : p + (((L1 p).length + (len2 + 1) : Nat) : Int) = p + ((L1 p).length : Int) + 1 + (len2 : Int) := by omega
    rw [hend]
    show (∀ v, (if x = 1 then some 1 else o2) = some v → _) ∧ ((if x = 1 then some 1 else o2) = none → _)
    by_cases cx : x = 1
    · rw [if_pos cx] at hM ⊢
      refine ⟨fun v hv => ?_, fun q => by cases q⟩
      cases hv
      refine ⟨sk1, p + ((L1 p).length : Int) + 1 + (len2 : Int), by omega, b1, by rw [b2, cx], ?_⟩
      rw [b3, hM]
      exact Mc_skip len2 (by omega) (by omega)
    · rw [if_neg cx] at hM ⊢
      obtain ⟨c1, c2⟩ := h2.2 (p + ((L1 p).length : Int) + 1) top sk1 sp1 (by omega) g1 (by omega) (by omega) ht (by omega)
      rw [hl2] at c1
      rw [b3, hM]
      refine ⟨fun v hv => ?_, c2⟩
      obtain ⟨sk2, sp2, d0, d1, d2, d3⟩ := c1 v hv
      exact ⟨sk2, sp2, d0, fun j hj => by rw [d1 j hj, b1 j hj], d2, d3⟩
theorem MT_and {st vl wd : Int → Int} {sz n1 n2 : Int} (hsz : sz ≤ 1000) {o1 o2 : Option Int} {L1 L2 : Int → List (Int × Int)} (h1 : MT st vl wd sz o1 L1 n1) (h2 : MT st vl wd sz o2 L2 n2) (m1 : 1 ≤ n1) (m2 : 1 ≤ n2) : MT st vl wd sz (o1.bind (fun x => if x = 0 then some 0 else o2)) (fun p => L1 p ++ (38, p + (L1 p).length + 1 + (L2 (p + (L1 p).length + 1)).length) :: L2 (p + (L1 p).length + 1)) (n1 + n2) := by
  refine ⟨fun v hv => ?_, fun p top sk sp g0 g1 g2 g3 g4 g5 => ?_⟩
  · cases o1 with
    | none => cases hv
    | some x =>
      have hv2 : (if x = 0 then some 0 else o2) = some v := hv
      split at hv2
      · cases hv2; decide
      · exact h2.1 v hv2
  simp only [List.length_append, List.length_cons] at g5 ⊢
  obtain ⟨a1, a2⟩ := h1.2 p top sk sp g0 g1 (by omega) g3 g4.le (by omega)
  cases o1 with
  | none => exact ⟨fun v hv => (by cases hv), fun _ => a2 rfl⟩
  | some x =>
    obtain ⟨sk1, sp1, b0, b1, b2, b3⟩ := a1 x rfl
    have hx := h1.1 x rfl
    have ha := g4.ri.hd
    have ht := g4.ri.tl
    generalize hl2 : (L2 (p + ((L1 p).length : Int) + 1)).length = len2 at *
    dsimp only at ha
    have hM := Mc_jmp (st := st) (vl := vl) (wd := wd) (sz := sz) (p := p + ((L1 p).length : Int)) (top := top + 1) (sk := sk1) (sp := sp1) (by omega) b0 (by omega) (by omega) (by rw [ha.1]; decide) (by rw [show top + 1 - 1 = top by omega, b2]; exact hx) (by rw [ha.2]; omega)
    rw [show top + 1 - 1 = top by omega, b2, ha.1, ha.2] at hM
    have he : (if (38 : Int) = 124 then (1 : Int) else 0) = 0 := by decide
    rw [he] at hM
    have hend : p + (((L1 p).length + (len2 + 1) : Nat) : Int) = p + ((L1 p).length : Int) + 1 + (len2 : Int) := by omega
    rw [hend]
    show (∀ v, (if x = 0 then some 0 else o2) = some v → _) ∧ ((if x = 0 then some 0 else o2) = none → _)
    by_cases cx : x = 0
    · rw [if_pos cx] at hM ⊢
      refine ⟨fun v hv => ?_, fun q => by cases q⟩
      cases hv
      refine ⟨sk1, p + ((L1 p).length : Int) + 1 + (len2 : Int), by omega, b1, by rw [b2, cx], ?_⟩
      rw [b3, hM]
      exact Mc_skip len2 (by omega) (by omega)
    · rw [if_neg cx] at hM ⊢
      obtain ⟨c1, c2⟩ := h2.2 (p + ((L1 p).length : Int) + 1) top sk1 sp1 (by omega) g1 (by omega) (by omega) ht (by omega)
      rw [hl2] at c1
      rw [b3, hM]
      refine ⟨fun v hv => ?_, c2⟩
      obtain ⟨sk2, sp2, d0, d1, d2, d3⟩ := c1 v hv
      exact ⟨sk2, sp2, d0, fun j hj => by rw [d1 j hj, b1 j hj], d2, d3⟩
/-! of all that is read -/
def wdR (wd : Int → Int) (wv : Int → Int → Int) (io fw lw : Int) : Prop := (∀ c, fw ≤ c → c ≤ lw → ¬ (io = 1 ∧ (c = 14 ∨ c = 20)) → wd (c - 9) = wv c 0) ∧ (io = 1 → ∀ k, 0 ≤ k → k ≤ 19 → wd (12 + k) = wv 14 k ∧ wd (32 + k) = wv 20 k) ∧ ∀ c k, fw ≤ c → c ≤ lw → rgo (wv c k)
def GS (st vl wd : Int → Int) (sz : Int) (wv : Int → Int → Int) (N : Int) (P : Int → Int → PR SXC) : Prop := ∀ (tk lv : Int) (a : SXC) (t l : Int), 1 ≤ tk → tk ≤ N → 0 ≤ lv → lv ≤ 50 → P tk lv = .inl (a, t, l) → lv < l ∧ MS st vl wd sz (a.1 wv) a.2 (l - lv) ∧ (a.2.length : Int) ≤ t - tk
def GT (st vl wd : Int → Int) (sz : Int) (wv : Int → Int → Int) (N : Int) (P : Int → Int → PR TXC) : Prop := ∀ (tk lv : Int) (a : TXC) (t l : Int), 1 ≤ tk → tk ≤ N → 0 ≤ lv → lv ≤ 50 → P tk lv = .inl (a, t, l) → lv < l ∧ MT st vl wd sz (a.1 wv) a.2 (l - lv) ∧ ∀ p, ((a.2 p).length : Int) ≤ t - tk
theorem gs_part {C V st vl wd : Int → Int} {sz N io fw lw : Int} {wv : Int → Int → Int} {S : Int → Int → PR SXC} (hNe : C N = 0) (hVr : ∀ k, 0 ≤ k → k < N → 0 ≤ V k) (hio : (io = 0 ∧ fw = 9 ∧ lw = 16) ∨ (io = 1 ∧ fw = 14 ∧ lw = 20)) (hw : wdR wd wv io fw lw) (hG : GP N S) (hS : GS st vl wd sz wv N S) : GS st vl wd sz wv N (pP C V io fw lw S) := by
  intro tk lv a t l h1 h2 h3 h4 h
  unfold pP at h
  by_cases c1 : C tk = 191
  · rw [if_pos c1] at h
    have hne : tk ≠ N := fun e => by rw [e, hNe] at c1; omega
    cases hq : S (tk + 1) lv with
    | inr t' => rw [hq] at h; cases h
    | inl q =>
      obtain ⟨a', t', l'⟩ := q
      rw [hq] at h
      dsimp only at h
      by_cases c2 : C t' = 193
      · rw [if_pos c2] at h
        cases h
        obtain ⟨e1, e2, e3⟩ := hS (tk + 1) lv _ _ _ (by omega) (by omega) h3 h4 hq
        exact ⟨e1, e2, by omega⟩
      · rw [if_neg c2] at h; cases h
  · rw [if_neg c1] at h
    by_cases c2 : (C tk = 50 ∧ V tk ≤ 1000) ∨ (fw ≤ C tk ∧ C tk ≤ lw)
    · rw [if_pos c2] at h
      have hne : tk ≠ N := fun e => by rw [e, hNe] at c2; omega
      by_cases c3 : lv = 50
      · rw [if_pos c3] at h; cases h
      rw [if_neg c3] at h
      by_cases c4 : io = 1 ∧ (C tk = 14 ∨ C tk = 20)
      · rw [if_pos c4] at h
        by_cases c5 : C (tk + 1) = 50 ∧ 0 ≤ V (tk + 1) ∧ V (tk + 1) ≤ 19
        · rw [if_pos c5] at h
          cases h
          have hwr := hw.2.2 (C tk) (V (tk + 1)) (by omega) (by omega)
          have hw2 := hw.2.1 c4.1 (V (tk + 1)) c5.2.1 c5.2.2
          refine ⟨by omega, ?_, by show (1 : Int) ≤ _; omega⟩
          rw [show lv + 1 - lv = 1 by omega]
          refine MS_wd (i := (if C tk = 14 then 12 else 32) + V (tk + 1)) (by split <;> omega) ?_ hwr
          by_cases c6 : C tk = 14
          · rw [if_pos c6, c6]; exact hw2.1
          · rw [if_neg c6, show C tk = 20 by omega]; exact hw2.2
        · rw [if_neg c5] at h; cases h
      · rw [if_neg c4] at h
        cases h
        have hv0 := hVr tk (by omega) (by omega)
        refine ⟨by omega, ?_, ?_⟩
        · rw [show lv + 1 - lv = 1 by omega]
          by_cases c5 : C tk = 50
          · rw [if_pos c5]
            exact MS_num (by omega)
          · rw [if_neg c5]
            exact MS_wd (by omega) (hw.1 (C tk) (by omega) (by omega) c4) (hw.2.2 (C tk) 0 (by omega) (by omega))
        · by_cases c5 : C tk = 50
          · rw [if_pos c5]; show (1 : Int) ≤ _; omega
          · rw [if_neg c5]; show (1 : Int) ≤ _; omega
    · rw [if_neg c2] at h; cases h
theorem gs_loop {C st vl wd : Int → Int} {sz N : Int} {wv : Int → Int → Int} {P : Int → Int → PR SXC} {isop : Int → Prop} [DecidablePred isop] (hNe : C N = 0) (h0 : ¬ isop 0) (hop : ∀ c, isop c → isA c ∨ isM c) (hG : GP N P) (hP : GS st vl wd sz wv N P) {tk0 lv0 : Int} : ∀ (k : Nat) (e : SXC) (tk lv : Int) (a : SXC) (t l : Int), 1 ≤ tk → tk ≤ N → 0 ≤ lv → lv ≤ 50 → lv0 < lv → MS st vl wd sz (e.1 wv) e.2 (lv - lv0) → (e.2.length : Int) ≤ tk - tk0 → pLp C P isop bnX k e tk lv = .inl (a, t, l) → lv0 < l ∧ MS st vl wd sz (a.1 wv) a.2 (l - lv0) ∧ (a.2.length : Int) ≤ t - tk0
  | 0, e, tk, lv, a, t, l, h1, h2, h3, h4, h5, h6, h7, h => by cases h
  | k + 1, e, tk, lv, a, t, l, h1, h2, h3, h4, h5, h6, h7, h => by
    simp only [pLp] at h
    by_cases c : isop (C tk)
    · rw [if_pos c] at h
      have hne : tk ≠ N := fun e => h0 (by rw [e, hNe] at c; exact c)
      cases hq : P (tk + 1) lv with
      | inr t' => rw [hq] at h; cases h
      | inl q =>
        obtain ⟨a1, t1, l1⟩ := q
        rw [hq] at h
        dsimp only at h
        have hg := (hG (tk + 1) lv (by omega) (by omega) h3 h4).1 _ _ _ hq
        obtain ⟨e1, e2, e3⟩ := hP (tk + 1) lv _ _ _ (by omega) (by omega) h3 h4 hq
        refine gs_loop hNe h0 hop hG hP k (bnX (C tk) e a1) t1 l1 a t l (by omega) (by omega) (by omega) (by omega) (by omega) ?_ ?_ h
        · have := MS_bin h6 e2 (by omega) (by omega) (hop _ c)
          rw [show lv - lv0 + (l1 - lv) = l1 - lv0 by omega] at this
          exact this
        · show ((e.2 ++ a1.2 ++ [(C tk - 100, 0)]).length : Int) ≤ _
          simp only [List.length_append, List.length_singleton]
          omega
    · rw [if_neg c] at h
      cases h
      exact ⟨h5, h6, h7⟩
theorem gs_V {C st vl wd : Int → Int} {sz N : Int} {wv : Int → Int → Int} {P : Int → Int → PR SXC} {isop : Int → Prop} [DecidablePred isop] (hNe : C N = 0) (h0 : ¬ isop 0) (hop : ∀ c, isop c → isA c ∨ isM c) (hG : GP N P) (hP : GS st vl wd sz wv N P) : GS st vl wd sz wv N (pLV C P isop bnX) := by
  intro tk lv a t l h1 h2 h3 h4 h
  unfold pLV at h
  cases hq : P tk lv with
  | inr t' => rw [hq] at h; cases h
  | inl q =>
    obtain ⟨a1, t1, l1⟩ := q
    rw [hq] at h
    dsimp only at h
    have hg := (hG tk lv h1 h2 h3 h4).1 _ _ _ hq
    obtain ⟨e1, e2, e3⟩ := hP tk lv _ _ _ h1 h2 h3 h4 hq
    exact gs_loop hNe h0 hop hG hP 401 a1 t1 l1 a t l (by omega) (by omega) (by omega) (by omega) e1 e2 e3 h
theorem gs_S {C V st vl wd : Int → Int} {sz N io fw lw : Int} {wv : Int → Int → Int} (hNe : C N = 0) (hVr : ∀ k, 0 ≤ k → k < N → 0 ≤ V k) (hio : (io = 0 ∧ fw = 9 ∧ lw = 16) ∨ (io = 1 ∧ fw = 14 ∧ lw = 20)) (hw : wdR wd wv io fw lw) : ∀ (m : Nat), GS st vl wd sz wv N (pS C V io fw lw m)
  | 0 => by intro tk lv a t l h1 h2 h3 h4 h; cases h
  | m + 1 => gs_V hNe (by decide) (fun c h => Or.inl h) (pLV_R hNe (by decide) (pP_R hNe (by omega) (pS_R hNe (by omega) m))) (gs_V hNe (by decide) (fun c h => Or.inr h) (pP_R hNe (by omega) (pS_R hNe (by omega) m)) (gs_part hNe hVr hio hw (pS_R hNe (by omega) m) (gs_S hNe hVr hio hw m)))
theorem pNo_p {C : Int → Int} : ∀ (k : Nat) (par tk : Int), tk ≤ (pNo C k par tk).2 ∧ ((pNo C k par tk).1 = par ∨ tk < (pNo C k par tk).2)
  | 0, par, tk => ⟨Int.le_refl _, Or.inl rfl⟩
  | k + 1, par, tk => by
    simp only [pNo]
    split
    · have := pNo_p (C := C) k (1 - par) (tk + 1)
      exact ⟨by omega, Or.inr (by omega)⟩
    · exact ⟨Int.le_refl _, Or.inl rfl⟩
theorem gt_po {C V st vl wd : Int → Int} {sz N : Int} {wv : Int → Int → Int} {S : Int → Int → PR SXC} {T : Int → Int → PR TXC} (hNe : C N = 0) (hGS : GP N S) (hS : GS st vl wd sz wv N S) (hB : GT st vl wd sz wv N T) : GT st vl wd sz wv N (pPb C S T) := by
  intro tk lv a t l h1 h2 h3 h4 h
  unfold pPb at h
  by_cases c1 : C tk = 140
  · rw [if_pos c1] at h
    have hne : tk ≠ N := fun e => by rw [e, hNe] at c1; omega
    cases hq : T (tk + 1) lv with
    | inr t' => rw [hq] at h; cases h
    | inl q =>
      obtain ⟨a', t', l'⟩ := q
      rw [hq] at h
      dsimp only at h
      by_cases c2 : C t' = 141
      · rw [if_pos c2] at h
        cases h
        obtain ⟨e1, e2, e3⟩ := hB (tk + 1) lv _ _ _ (by omega) (by omega) h3 h4 hq
        exact ⟨e1, e2, fun p => by have := e3 p; omega⟩
      · rw [if_neg c2] at h; cases h
  · rw [if_neg c1] at h
    cases hq : S tk lv with
    | inr t' => rw [hq] at h; cases h
    | inl q =>
      obtain ⟨a1, t1, l1⟩ := q
      rw [hq] at h
      dsimp only at h
      have hg := (hGS tk lv h1 h2 h3 h4).1 _ _ _ hq
      obtain ⟨e1, e2, e3⟩ := hS tk lv _ _ _ h1 h2 h3 h4 hq
      by_cases c2 : C t1 = 160 ∨ C t1 = 162 ∨ C t1 = 161
      · rw [if_pos c2] at h
        have hne : t1 ≠ N := fun e => by rw [e, hNe] at c2; omega
        cases hr : S (t1 + 1) l1 with
        | inr t' => rw [hr] at h; cases h
        | inl r =>
          obtain ⟨a2, t2, l2⟩ := r
          rw [hr] at h
          dsimp only at h
          have hz := Sum.inl.inj h
          have hz1 : cmX (C t1) a1 a2 = a := (Prod.mk.inj hz).1
          have hz2 : t2 = t := (Prod.mk.inj (Prod.mk.inj hz).2).1
          have hz3 : l2 = l := (Prod.mk.inj (Prod.mk.inj hz).2).2
          subst hz1 hz2 hz3
          obtain ⟨f1, f2, f3⟩ := hS (t1 + 1) l1 _ _ _ (by omega) (by omega) (by omega) (by omega) hr
          refine ⟨by omega, ?_, fun p => ?_⟩
          · have := MT_cmp e2 f2 (by omega) (by omega) c2
            rw [show l1 - lv + (l2 - l1) = l2 - lv by omega] at this
            exact this
          · show ((a1.2 ++ a2.2 ++ [(C t1 - 100, 0)]).length : Int) ≤ _
            simp only [List.length_append, List.length_singleton]
            omega
      · rw [if_neg c2] at h; cases h
theorem gt_plain {C st vl wd : Int → Int} {sz N : Int} {wv : Int → Int → Int} {S : Int → Int → PR SXC} {T : Int → Int → PR TXC} (hNe : C N = 0) (hB : GT st vl wd sz wv N (pPb C S T)) : GT st vl wd sz wv N (pPl C S T) := by
  intro tk lv a t l h1 h2 h3 h4 h
  have hno := pNo_R (C := C) (N := N) hNe 401 0 tk h2
  have hnp := pNo_p (C := C) 401 0 tk
  unfold pPl at h
  cases hq : pPb C S T (pNo C 401 0 tk).2 lv with
  | inr t' => rw [hq] at h; cases h
  | inl q =>
    obtain ⟨a1, t1, l1⟩ := q
    rw [hq] at h
    dsimp only at h
    cases h
    obtain ⟨e1, e2, e3⟩ := hB _ lv _ _ _ (by omega) hno.2 h3 h4 hq
    refine ⟨e1, ?_, fun p => ?_⟩
    · split
      · exact MT_not e2 (by omega)
      · exact e2
    · have := e3 p
      split
      · show ((a1.2 p ++ [(33, 0)]).length : Int) ≤ _
        simp only [List.length_append, List.length_singleton]
        omega
      · omega
theorem gt_loop {C st vl wd : Int → Int} {sz N : Int} (hsz : sz ≤ 1000) {wv : Int → Int → Int} {P : Int → Int → PR TXC} {isop : Int → Prop} [DecidablePred isop] {mk : TXC → TXC → TXC} (hNe : C N = 0) (h0 : ¬ isop 0) (hmk : (mk = anX) ∨ (mk = orX)) (hG : GP N P) (hP : GT st vl wd sz wv N P) {tk0 lv0 : Int} : ∀ (k : Nat) (e : TXC) (tk lv : Int) (a : TXC) (t l : Int), 1 ≤ tk → tk ≤ N → 0 ≤ lv → lv ≤ 50 → lv0 < lv → MT st vl wd sz (e.1 wv) e.2 (lv - lv0) → (∀ p, ((e.2 p).length : Int) ≤ tk - tk0) → pLp C P isop (fun _ => mk) k e tk lv = .inl (a, t, l) → lv0 < l ∧ MT st vl wd sz (a.1 wv) a.2 (l - lv0) ∧ ∀ p, ((a.2 p).length : Int) ≤ t - tk0
  | 0, e, tk, lv, a, t, l, h1, h2, h3, h4, h5, h6, h7, h => by cases h
  | k + 1, e, tk, lv, a, t, l, h1, h2, h3, h4, h5, h6, h7, h => by
    simp only [pLp] at h
    by_cases c : isop (C tk)
    · rw [if_pos c] at h
      have hne : tk ≠ N := fun e => h0 (by rw [e, hNe] at c; exact c)
      cases hq : P (tk + 1) lv with
      | inr t' => rw [hq] at h; cases h
      | inl q =>
        obtain ⟨a1, t1, l1⟩ := q
        rw [hq] at h
        dsimp only at h
        have hg := (hG (tk + 1) lv (by omega) (by omega) h3 h4).1 _ _ _ hq
        obtain ⟨e1, e2, e3⟩ := hP (tk + 1) lv _ _ _ (by omega) (by omega) h3 h4 hq
        refine gt_loop hsz hNe h0 hmk hG hP k (mk e a1) t1 l1 a t l (by omega) (by omega) (by omega) (by omega) (by omega) ?_ (fun p => ?_) h
        · rw [show l1 - lv0 = lv - lv0 + (l1 - lv) by omega]
          rcases hmk with rfl | rfl
          · exact MT_and hsz h6 e2 (by omega) (by omega)
          · exact MT_or hsz h6 e2 (by omega) (by omega)
        · have q1 := h7 p
          have q2 := e3 (p + (e.2 p).length + 1)
          rcases hmk with rfl | rfl
          · show ((jnX 38 p e a1).length : Int) ≤ _
            unfold jnX
            simp only [List.length_append, List.length_cons]
            omega
          · show ((jnX 124 p e a1).length : Int) ≤ _
            unfold jnX
            simp only [List.length_append, List.length_cons]
            omega
    · rw [if_neg c] at h
      cases h
      exact ⟨h5, h6, h7⟩
theorem gt_V {C st vl wd : Int → Int} {sz N : Int} (hsz : sz ≤ 1000) {wv : Int → Int → Int} {P : Int → Int → PR TXC} {isop : Int → Prop} [DecidablePred isop] {mk : TXC → TXC → TXC} (hNe : C N = 0) (h0 : ¬ isop 0) (hmk : (mk = anX) ∨ (mk = orX)) (hG : GP N P) (hP : GT st vl wd sz wv N P) : GT st vl wd sz wv N (pLV C P isop (fun _ => mk)) := by
  intro tk lv a t l h1 h2 h3 h4 h
  unfold pLV at h
  cases hq : P tk lv with
  | inr t' => rw [hq] at h; cases h
  | inl q =>
    obtain ⟨a1, t1, l1⟩ := q
    rw [hq] at h
    dsimp only at h
    have hg := (hG tk lv h1 h2 h3 h4).1 _ _ _ hq
    obtain ⟨e1, e2, e3⟩ := hP tk lv _ _ _ h1 h2 h3 h4 hq
    exact gt_loop hsz hNe h0 hmk hG hP 401 a1 t1 l1 a t l (by omega) (by omega) (by omega) (by omega) e1 e2 e3 h
theorem gt_T {C V st vl wd : Int → Int} {sz N io fw lw : Int} (hsz : sz ≤ 1000) {wv : Int → Int → Int} (hNe : C N = 0) (hVr : ∀ k, 0 ≤ k → k < N → 0 ≤ V k) (hio : (io = 0 ∧ fw = 9 ∧ lw = 16) ∨ (io = 1 ∧ fw = 14 ∧ lw = 20)) (hw : wdR wd wv io fw lw) : ∀ (m : Nat), GT st vl wd sz wv N (pT C V io fw lw m)
  | 0 => by intro tk lv a t l h1 h2 h3 h4 h; cases h
  | m + 1 => by
    have hf : 0 < fw := by omega
    have g1 := pS_R (C := C) (V := V) (io := io) (fw := fw) (lw := lw) hNe hf (m + 1)
    have g2 := pT_R (C := C) (V := V) (io := io) (fw := fw) (lw := lw) hNe hf m
    have g3 := pPl_R (C := C) hNe g1 g2
    exact gt_V hsz hNe (by decide) (Or.inr rfl) (pLV_R hNe (by decide) g3) (gt_V hsz hNe (by decide) (Or.inl rfl) g3 (gt_plain hNe (gt_po (V := V) hNe g1 (gs_S hNe hVr hio hw (m + 1)) (gt_T hsz hNe hVr hio hw m))))
