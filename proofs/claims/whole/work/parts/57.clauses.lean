theorem sumsG {g : Bool} {d : Nat} {fl tc pz pn : Int} {kn ff sc ts mm by_ tk ps pv pw : Int → Int} {C V : Int → Int} {N : Int} (hT : TkH C V N tk pv) (hpn : pn = N + 1) {io fw lw : Int} (hio : (io = 0 ∧ fw = 9 ∧ lw = 16) ∨ (io = 1 ∧ fw = 14 ∧ lw = 20)) : ∀ m : Nat, m ≤ 8 → MGS g m_Gra_sum (d + 3 * m + 6) (8 - (m : Int)) fl io tc pz pn kn ff sc ts mm by_ tk ps pv pw C N (pS C V io fw lw (m + 1))
  | 0, _ => by
    have hf : 0 < fw := by omega
    have h1 : MGS g m_Gra_part (d + 4) (8 - ((0 : Nat) : Int)) fl io tc pz pn kn ff sc ts mm by_ tk ps pv pw C N (pP C V io fw lw (pS C V io fw lw 0)) := fun ti lv z st vl Q k0 k1 v0 v1 z0 z1 hok her => t_Gra_part hT hpn hio (fun q => absurd q (by omega)) (pS_R hT.2.1 hf 0) (fun _ x y => rfl) (by omega) (by omega) k0 k1 v0 v1 z0 z1 hok her
    have h2 : MGS g m_Gra_term (d + 5) (8 - ((0 : Nat) : Int)) fl io tc pz pn kn ff sc ts mm by_ tk ps pv pw C N (pLV C (pP C V io fw lw (pS C V io fw lw 0)) isM bnX) := fun ti lv z st vl Q k0 k1 v0 v1 z0 z1 hok her => t_Gra_term hT hpn h1 (pP_R hT.2.1 hf (pS_R hT.2.1 hf 0)) k0 k1 v0 v1 z0 z1 hok her
    exact fun ti lv z st vl Q k0 k1 v0 v1 z0 z1 hok her => t_Gra_sum hT hpn h2 (pLV_R hT.2.1 (by decide) (pP_R hT.2.1 hf (pS_R hT.2.1 hf 0))) k0 k1 v0 v1 z0 z1 hok her
  | m + 1, hm => by
    have hf : 0 < fw := by omega
    have ih := sumsG (g := g) (d := d) (fl := fl) (tc := tc) (pz := pz) (kn := kn) (ff := ff) (sc := sc) (ts := ts) (mm := mm) (by_ := by_) (ps := ps) (pw := pw) hT hpn hio m (by omega)
    rw [show (8 : Int) - (m : Int) = 8 - ((m + 1 : Nat) : Int) + 1 by omega] at ih
    have h1 : MGS g m_Gra_part (d + 3 * m + 7) (8 - ((m + 1 : Nat) : Int)) fl io tc pz pn kn ff sc ts mm by_ tk ps pv pw C N (pP C V io fw lw (pS C V io fw lw (m + 1))) := fun ti lv z st vl Q k0 k1 v0 v1 z0 z1 hok her => t_Gra_part hT hpn hio (fun _ => ih) (pS_R hT.2.1 hf (m + 1)) (fun q => absurd q (by omega)) (by omega) (by omega) k0 k1 v0 v1 z0 z1 hok her
    have h2 : MGS g m_Gra_term (d + 3 * m + 8) (8 - ((m + 1 : Nat) : Int)) fl io tc pz pn kn ff sc ts mm by_ tk ps pv pw C N (pLV C (pP C V io fw lw (pS C V io fw lw (m + 1))) isM bnX) := fun ti lv z st vl Q k0 k1 v0 v1 z0 z1 hok her => t_Gra_term hT hpn h1 (pP_R hT.2.1 hf (pS_R hT.2.1 hf (m + 1))) k0 k1 v0 v1 z0 z1 hok her
    exact fun ti lv z st vl Q k0 k1 v0 v1 z0 z1 hok her => t_Gra_sum hT hpn h2 (pLV_R hT.2.1 (by decide) (pP_R hT.2.1 hf (pS_R hT.2.1 hf (m + 1)))) k0 k1 v0 v1 z0 z1 hok her
theorem testsG {g : Bool} {d : Nat} {fl tc pz pn : Int} {kn ff sc ts mm by_ tk ps pv pw : Int → Int} {C V : Int → Int} {N : Int} (hT : TkH C V N tk pv) (hpn : pn = N + 1) {io fw lw : Int} (hio : (io = 0 ∧ fw = 9 ∧ lw = 16) ∨ (io = 1 ∧ fw = 14 ∧ lw = 20)) : ∀ m : Nat, m ≤ 8 → MGT g m_Gra_test (d + 3 * m + 14) (8 - (m : Int)) fl io tc pz pn kn ff sc ts mm by_ tk ps pv pw C N (pT C V io fw lw (m + 1))
  | 0, _ => by
    have hf : 0 < fw := by omega
    have hS : MGS g m_Gra_sum (d + 3 * 0 + 10) (8 - ((0 : Nat) : Int)) fl io tc pz pn kn ff sc ts mm by_ tk ps pv pw C N (pS C V io fw lw (0 + 1)) := by
      have := sumsG (g := g) (d := d + 4) (fl := fl) (tc := tc) (pz := pz) (kn := kn) (ff := ff) (sc := sc) (ts := ts) (mm := mm) (by_ := by_) (ps := ps) (pw := pw) hT hpn hio 0 (by omega)
      rw [show d + 4 + 3 * 0 + 6 = d + 3 * 0 + 10 by omega] at this
      exact this
    have gS := pS_R (C := C) (V := V) (io := io) (fw := fw) (lw := lw) hT.2.1 hf (0 + 1)
    have gT := pT_R (C := C) (V := V) (io := io) (fw := fw) (lw := lw) hT.2.1 hf 0
    have gP := pPl_R (C := C) hT.2.1 gS gT
    have gB := pLV_R (C := C) (isop := isAnd) (mk := fun _ => anX) hT.2.1 (by decide) gP
    have h1 : MGT g m_Gra_plain (d + 3 * 0 + 12) (8 - ((0 : Nat) : Int)) fl io tc pz pn kn ff sc ts mm by_ tk ps pv pw C N (pPl C (pS C V io fw lw (0 + 1)) (pT C V io fw lw 0)) := fun ti lv z st vl Q k0 k1 v0 v1 z0 z1 hok her => t_Gra_plain hT hpn hS gS  (fun q => absurd q (by omega)) gT (fun _ x y => rfl) (by omega) (by omega) k0 k1 v0 v1 z0 z1 hok her
    have h2 : MGT g m_Gra_both (d + 3 * 0 + 13) (8 - ((0 : Nat) : Int)) fl io tc pz pn kn ff sc ts mm by_ tk ps pv pw C N (pLV C (pPl C (pS C V io fw lw (0 + 1)) (pT C V io fw lw 0)) isAnd (fun _ => anX)) := fun ti lv z st vl Q k0 k1 v0 v1 z0 z1 hok her => t_Gra_both hT hpn h1 gP k0 k1 v0 v1 z0 z1 hok her
    exact fun ti lv z st vl Q k0 k1 v0 v1 z0 z1 hok her => t_Gra_test hT hpn h2 gB k0 k1 v0 v1 z0 z1 hok her
  | m + 1, hm => by
    have hf : 0 < fw := by omega
    have ih := testsG (g := g) (d := d) (fl := fl) (tc := tc) (pz := pz) (kn := kn) (ff := ff) (sc := sc) (ts := ts) (mm := mm) (by_ := by_) (ps := ps) (pw := pw) hT hpn hio m (by omega)
    rw [show (8 : Int) - (m : Int) = 8 - ((m + 1 : Nat) : Int) + 1 by omega, show d + 3 * m + 14 = d + 3 * (m + 1) + 11 by omega] at ih
    have hS : MGS g m_Gra_sum (d + 3 * (m + 1) + 10) (8 - (((m + 1) : Nat) : Int)) fl io tc pz pn kn ff sc ts mm by_ tk ps pv pw C N (pS C V io fw lw ((m + 1) + 1)) := by
      have := sumsG (g := g) (d := d + 4) (fl := fl) (tc := tc) (pz := pz) (kn := kn) (ff := ff) (sc := sc) (ts := ts) (mm := mm) (by_ := by_) (ps := ps) (pw := pw) hT hpn hio (m + 1) (by omega)
      rw [show d + 4 + 3 * (m + 1) + 6 = d + 3 * (m + 1) + 10 by omega] at this
      exact this
    have gS := pS_R (C := C) (V := V) (io := io) (fw := fw) (lw := lw) hT.2.1 hf ((m + 1) + 1)
    have gT := pT_R (C := C) (V := V) (io := io) (fw := fw) (lw := lw) hT.2.1 hf (m + 1)
    have gP := pPl_R (C := C) hT.2.1 gS gT
    have gB := pLV_R (C := C) (isop := isAnd) (mk := fun _ => anX) hT.2.1 (by decide) gP
    have h1 : MGT g m_Gra_plain (d + 3 * (m + 1) + 12) (8 - (((m + 1) : Nat) : Int)) fl io tc pz pn kn ff sc ts mm by_ tk ps pv pw C N (pPl C (pS C V io fw lw ((m + 1) + 1)) (pT C V io fw lw (m + 1))) := fun ti lv z st vl Q k0 k1 v0 v1 z0 z1 hok her => t_Gra_plain hT hpn hS gS  (fun _ => ih) gT (fun q => absurd q (by omega)) (by omega) (by omega) k0 k1 v0 v1 z0 z1 hok her
    have h2 : MGT g m_Gra_both (d + 3 * (m + 1) + 13) (8 - (((m + 1) : Nat) : Int)) fl io tc pz pn kn ff sc ts mm by_ tk ps pv pw C N (pLV C (pPl C (pS C V io fw lw ((m + 1) + 1)) (pT C V io fw lw (m + 1))) isAnd (fun _ => anX)) := fun ti lv z st vl Q k0 k1 v0 v1 z0 z1 hok her => t_Gra_both hT hpn h1 gP k0 k1 v0 v1 z0 z1 hok her
    exact fun ti lv z st vl Q k0 k1 v0 v1 z0 z1 hok her => t_Gra_test hT hpn h2 gB k0 k1 v0 v1 z0 z1 hok her
theorem sum9 {g : Bool} {d : Nat} {fl tc pz pn : Int} {kn ff sc ts mm by_ tk ps pv pw : Int → Int} {C V : Int → Int} {N : Int} (hT : TkH C V N tk pv) (hpn : pn = N + 1) {io fw lw : Int} (hio : (io = 0 ∧ fw = 9 ∧ lw = 16) ∨ (io = 1 ∧ fw = 14 ∧ lw = 20)) : MGS g m_Gra_sum (d + 30) 0 fl io tc pz pn kn ff sc ts mm by_ tk ps pv pw C N (pS C V io fw lw 9) := by
  have := sumsG (g := g) (d := d) (fl := fl) (tc := tc) (pz := pz) (kn := kn) (ff := ff) (sc := sc) (ts := ts) (mm := mm) (by_ := by_) (ps := ps) (pw := pw) hT hpn hio 8 (by omega)
  rw [show (8 : Int) - ((8 : Nat) : Int) = 0 by decide] at this
  exact this
theorem test9 {g : Bool} {d : Nat} {fl tc pz pn : Int} {kn ff sc ts mm by_ tk ps pv pw : Int → Int} {C V : Int → Int} {N : Int} (hT : TkH C V N tk pv) (hpn : pn = N + 1) {io fw lw : Int} (hio : (io = 0 ∧ fw = 9 ∧ lw = 16) ∨ (io = 1 ∧ fw = 14 ∧ lw = 20)) : MGT g m_Gra_test (d + 38) 0 fl io tc pz pn kn ff sc ts mm by_ tk ps pv pw C N (pT C V io fw lw 9) := by
  have := testsG (g := g) (d := d) (fl := fl) (tc := tc) (pz := pz) (kn := kn) (ff := ff) (sc := sc) (ts := ts) (mm := mm) (by_ := by_) (ps := ps) (pw := pw) hT hpn hio 8 (by omega)
  rw [show (8 : Int) - ((8 : Nat) : Int) = 0 by decide] at this
  exact this
section PTR
variable {C V : Int → Int} {S : Int → Int → PR SXC} {T : Int → Int → PR TXC} {hd mid tk lv t l t1 l1 : Int} {a b : Option SXC}
theorem pTm_no (h : ¬ C t = 27) : pTm C V T hd a b t l = pTail C T hd a b 1 t l := if_neg h
theorem pTm_yes (h : C t = 27) (h2 : C (t + 1) = 50 ∧ 1 ≤ V (t + 1) ∧ V (t + 1) ≤ 20) : pTm C V T hd a b t l = pTail C T hd a b (V (t + 1)) (t + 2) l := by
  unfold pTm
  rw [if_pos h, if_pos h2]
theorem pTm_er (h : C t = 27) (h2 : ¬ (C (t + 1) = 50 ∧ 1 ≤ V (t + 1) ∧ V (t + 1) ≤ 20)) : pTm C V T hd a b t l = .inr (t + 1) := by
  unfold pTm
  rw [if_pos h, if_neg h2]
theorem pTwo_1 (e : S (tk + 1) lv = .inr t) : pTwo C V S T hd mid tk lv = .inr t := by
  unfold pTwo
  rw [e]
theorem pTwo_2 {x : SXC} (e : S (tk + 1) lv = .inl (x, t1, l1)) (h : ¬ C t1 = mid) : pTwo C V S T hd mid tk lv = .inr t1 := by
  unfold pTwo
  rw [e]
  exact if_neg h
theorem pTwo_3 {x : SXC} (e : S (tk + 1) lv = .inl (x, t1, l1)) (h : C t1 = mid) (e2 : S (t1 + 1) l1 = .inr t) : pTwo C V S T hd mid tk lv = .inr t := by
  unfold pTwo
  rw [e]
  dsimp only
  rw [if_pos h, e2]
theorem pTwo_4 {x y : SXC} (e : S (tk + 1) lv = .inl (x, t1, l1)) (h : C t1 = mid) (e2 : S (t1 + 1) l1 = .inl (y, t, l)) : pTwo C V S T hd mid tk lv = pTm C V T hd (some x) (some y) t l := by
  unfold pTwo
  rw [e]
  dsimp only
  rw [if_pos h, e2]
theorem pOrd_21 (h : C tk = 21) : pOrd C V S T tk lv = pTwo C V S T 21 22 tk lv := if_pos h
theorem pOrd_24 (h : C tk = 24) : pOrd C V S T tk lv = pTwo C V S T 24 25 tk lv := by
  unfold pOrd
  rw [if_neg (by omega), if_pos h]
theorem pOrd_23e (h : C tk = 23) (e : S (tk + 1) lv = .inr t) : pOrd C V S T tk lv = .inr t := by
  unfold pOrd
  rw [if_neg (by omega), if_neg (by omega), if_pos h, e]
theorem pOrd_23 {x : SXC} (h : C tk = 23) (e : S (tk + 1) lv = .inl (x, t, l)) : pOrd C V S T tk lv = pTm C V T 23 (some x) none t l := by
  unfold pOrd
  rw [if_neg (by omega), if_neg (by omega), if_pos h, e]
theorem pOrd_26 (h : C tk = 26) : pOrd C V S T tk lv = pTm C V T 26 none none (tk + 1) lv := by
  unfold pOrd
  rw [if_neg (by omega), if_neg (by omega), if_neg (by omega), if_pos h]
theorem pOrd_n (h : ¬ (C tk = 21 ∨ C tk = 23 ∨ C tk = 24 ∨ C tk = 26)) : pOrd C V S T tk lv = .inr tk := by
  unfold pOrd
  rw [if_neg (by omega), if_neg (by omega), if_neg (by omega), if_neg (by omega)]
theorem pLaw_n (h : ¬ (C tk = 1 ∨ C tk = 2 ∨ C tk = 3 ∨ C tk = 4)) : pLaw C S T tk lv = .inr tk := by
  unfold pLaw
  rw [if_neg (by omega), if_neg (by omega)]
theorem pLaw_4 (h : C tk = 4) : pLaw C S T tk lv = pTail C T 4 none none 1 (tk + 1) lv := by
  unfold pLaw
  rw [if_neg (by omega), if_pos h]
theorem pLaw_1 {x : SXC} (h : C tk = 1 ∨ C tk = 2 ∨ C tk = 3) (e : S (tk + 1) lv = .inl (x, t, l)) : pLaw C S T tk lv = pTail C T (C tk) (some x) none 1 t l := by
  unfold pLaw
  rw [if_pos h, e]
theorem pLaw_e (h : C tk = 1 ∨ C tk = 2 ∨ C tk = 3) (e : S (tk + 1) lv = .inr t) : pLaw C S T tk lv = .inr t := by
  unfold pLaw
  rw [if_pos h, e]
theorem pTail_n {tm : Int} (h : ¬ C t = 5) : pTail C T hd a b tm t l = .inl ((hd, a, b, tm, none), t, l) := if_neg h
theorem pTail_y {tm : Int} {x : TXC} (h : C t = 5) (e : T (t + 1) l = .inl (x, t1, l1)) : pTail C T hd a b tm t l = .inl ((hd, a, b, tm, some x), t1, l1) := by
  unfold pTail
  rw [if_pos h, e]
theorem pTail_e {tm : Int} (h : C t = 5) (e : T (t + 1) l = .inr t1) : pTail C T hd a b tm t l = .inr t1 := by
  unfold pTail
  rw [if_pos h, e]
theorem ly_no {tm z : Int} : lyC z (hd, a, b, tm, none) = opS a ++ opS b := by
  unfold lyC
  show opS a ++ opS b ++ [] = _
  rw [List.append_nil]
end PTR
theorem t_Gra_startedSum3 {g : Bool} {d : Nat} {Q : List xM → Option Value → Prop} {fl tc pz pn : Int} {kn ff sc ts mm st vl by_ tk ps pv pw : Int → Int} {C V : Int → Int} {N : Int} (hT : TkH C V N tk pv) (hpn : pn = N + 1) {io fw lw : Int} (hio : (io = 0 ∧ fw = 9 ∧ lw = 16) ∨ (io = 1 ∧ fw = 14 ∧ lw = 20)) {ti lv z c : Int} (c0_ : 0 ≤ c) (c1_ : c < 12) (k0 : 1 ≤ ti) (k1 : ti ≤ N) (v0 : 0 ≤ lv) (v1 : lv ≤ 50) (z0_ : 0 ≤ z) (z1_ : z ≤ ti - 1) (hok : ∀ (a : SXC) (t l : Int) (st_ vl_ : Int → Int), (pS C V io fw lw 9) ti lv = .inl (a, t, l) → At st_ vl_ z (opS (some a)) → (∀ j, j < z → st_ j = st j ∧ vl_ j = vl j) → z + ((opS (some a)).length : Int) ≤ t → Q (W_GR fl io t (tkF C N t) l 0 tc (z + ((opS (some a)).length : Int)) pz pn kn (up ff c z) sc ts mm st_ vl_ by_ tk ps pv pw) (some (.int (ii 1)))) (her : ∀ (t : Int), (pS C V io fw lw 9) ti lv = .inr t → ∀ (nx_ tn_ pp_ ne_ sz_ : Int) (st_ vl_ : Int → Int), Q (W_GR (ps t) io nx_ tn_ pp_ ne_ tc sz_ pz pn kn (up ff c z) sc ts mm st_ vl_ by_ tk ps pv pw) (some (.int (ii 0)))) : CT g m_Gra_startedSum (d + 31) [.ref 0, .ref 3, .int (ii c)] (W_GR fl io ti (tkF C N ti) lv 0 tc z pz pn kn ff sc ts mm st vl by_ tk ps pv pw) 0 0 Q := by
  refine CT.of (by decide) (Nat.le_of_ble_eq_true rfl) ?_
  show SJ _ _ _ _ [some (.ref 0), some (.ref 3), some (.int (ii c))] [] _ _ _ _
  have hN := hT.1
  refine j_aload_n d_Gra_startedSum_0 rfl ?_
  refine j_iload_n d_Gra_startedSum_1 rfl ?_
  refine j_aload_n d_Gra_startedSum_2 rfl ?_
  refine gf_GR_0_0 f_Gra_12 d_Gra_startedSum_3 ?_
  refine gf_GR_1_8 f_Gra_98 d_Gra_startedSum_6 ?_
  refine as_GR_3 d_Gra_startedSum_9 (by omega) (by omega) ?_
  refine j_aload_n d_Gra_startedSum_10 rfl ?_
  refine v_call0 d_Gra_startedSum_11 c_Gra_112 rfl ⟨_, rfl, rfl⟩ (Nat.le_of_ble_eq_true rfl) (sum9 hT hpn hio ti lv z st vl _ k0 k1 v0 v1 z0_ (by omega) (fun a t l st2 vl2 hq hA hB hC => ?_) (fun t hq nx2 tn2 pp2 ne2 sz2 st2 vl2 => ?_))
  · refine z_if_ne (t := 19) d_Gra_startedSum_14 (by decide) (by first | omega | exact hw _ | exact hx _ _ | assumption) (fun _ => ?_) (fun h => absurd h (by decide))
    have hg := (pS_R hT.2.1 (by omega) 9 ti lv k0 k1 v0 v1).1 _ _ _ hq
    have hol := opS_len a
    refine j_aload_n d_Gra_startedSum_19 rfl ?_
    refine gf_GR_0_0 f_Gra_12 d_Gra_startedSum_20 ?_
    refine z_bipush d_Gra_startedSum_23 (by decide) ?_
    refine z_iconst d_Gra_startedSum_25 ?_
    refine v_call2 d_Gra_startedSum_26 c_Gra_102 rfl ⟨_, rfl, rfl⟩ (Nat.le_of_ble_eq_true rfl) (t_Tex_addStep (by omega) (by omega) ?_)
    refine j_pop d_Gra_startedSum_29 rfl ?_
    refine z_iconst d_Gra_startedSum_30 ?_
    rw [show z + (a.2.length : Int) + 1 = z + ((opS (some a)).length : Int) by rw [hol]; omega]
    exact z_zreturn rfl (Or.inr rfl) d_Gra_startedSum_31 (hok a t l _ _ hq (hA.push (by omega)) (fun j hj => ⟨(up_ne (by omega)).trans (hB j hj).1, (up_ne (by omega)).trans (hB j hj).2⟩) (by omega))
  · refine z_if_ne (t := 19) d_Gra_startedSum_14 (by decide) (by first | omega | exact hw _ | exact hx _ _ | assumption) (fun h => absurd h (by decide)) (fun _ => ?_)
    refine z_iconst d_Gra_startedSum_17 ?_
    exact z_zreturn rfl (Or.inl rfl) d_Gra_startedSum_18 (her t hq _ _ _ _ _ _ _)
theorem t_Gra_startedSum4 {g : Bool} {d : Nat} {Q : List xM → Option Value → Prop} {fl tc pz pn : Int} {kn ff sc ts mm st vl by_ tk ps pv pw : Int → Int} {C V : Int → Int} {N : Int} (hT : TkH C V N tk pv) (hpn : pn = N + 1) {io fw lw : Int} (hio : (io = 0 ∧ fw = 9 ∧ lw = 16) ∨ (io = 1 ∧ fw = 14 ∧ lw = 20)) {ti lv z c : Int} (c0_ : 0 ≤ c) (c1_ : c < 12) (k0 : 1 ≤ ti) (k1 : ti ≤ N) (v0 : 0 ≤ lv) (v1 : lv ≤ 50) (z0_ : 0 ≤ z) (z1_ : z ≤ ti - 1) (hok : ∀ (a : SXC) (t l : Int) (st_ vl_ : Int → Int), (pS C V io fw lw 9) ti lv = .inl (a, t, l) → At st_ vl_ z (opS (some a)) → (∀ j, j < z → st_ j = st j ∧ vl_ j = vl j) → z + ((opS (some a)).length : Int) ≤ t → Q (W_GR fl io t (tkF C N t) l 0 tc (z + ((opS (some a)).length : Int)) pz pn kn ff (up sc c z) ts mm st_ vl_ by_ tk ps pv pw) (some (.int (ii 1)))) (her : ∀ (t : Int), (pS C V io fw lw 9) ti lv = .inr t → ∀ (nx_ tn_ pp_ ne_ sz_ : Int) (st_ vl_ : Int → Int), Q (W_GR (ps t) io nx_ tn_ pp_ ne_ tc sz_ pz pn kn ff (up sc c z) ts mm st_ vl_ by_ tk ps pv pw) (some (.int (ii 0)))) : CT g m_Gra_startedSum (d + 31) [.ref 0, .ref 4, .int (ii c)] (W_GR fl io ti (tkF C N ti) lv 0 tc z pz pn kn ff sc ts mm st vl by_ tk ps pv pw) 0 0 Q := by
  refine CT.of (by decide) (Nat.le_of_ble_eq_true rfl) ?_
  show SJ _ _ _ _ [some (.ref 0), some (.ref 4), some (.int (ii c))] [] _ _ _ _
  have hN := hT.1
  refine j_aload_n d_Gra_startedSum_0 rfl ?_
  refine j_iload_n d_Gra_startedSum_1 rfl ?_
  refine j_aload_n d_Gra_startedSum_2 rfl ?_
  refine gf_GR_0_0 f_Gra_12 d_Gra_startedSum_3 ?_
  refine gf_GR_1_8 f_Gra_98 d_Gra_startedSum_6 ?_
  refine as_GR_4 d_Gra_startedSum_9 (by omega) (by omega) ?_
  refine j_aload_n d_Gra_startedSum_10 rfl ?_
  refine v_call0 d_Gra_startedSum_11 c_Gra_112 rfl ⟨_, rfl, rfl⟩ (Nat.le_of_ble_eq_true rfl) (sum9 hT hpn hio ti lv z st vl _ k0 k1 v0 v1 z0_ (by omega) (fun a t l st2 vl2 hq hA hB hC => ?_) (fun t hq nx2 tn2 pp2 ne2 sz2 st2 vl2 => ?_))
  · refine z_if_ne (t := 19) d_Gra_startedSum_14 (by decide) (by first | omega | exact hw _ | exact hx _ _ | assumption) (fun _ => ?_) (fun h => absurd h (by decide))
    have hg := (pS_R hT.2.1 (by omega) 9 ti lv k0 k1 v0 v1).1 _ _ _ hq
    have hol := opS_len a
    refine j_aload_n d_Gra_startedSum_19 rfl ?_
    refine gf_GR_0_0 f_Gra_12 d_Gra_startedSum_20 ?_
    refine z_bipush d_Gra_startedSum_23 (by decide) ?_
    refine z_iconst d_Gra_startedSum_25 ?_
    refine v_call2 d_Gra_startedSum_26 c_Gra_102 rfl ⟨_, rfl, rfl⟩ (Nat.le_of_ble_eq_true rfl) (t_Tex_addStep (by omega) (by omega) ?_)
    refine j_pop d_Gra_startedSum_29 rfl ?_
    refine z_iconst d_Gra_startedSum_30 ?_
    rw [show z + (a.2.length : Int) + 1 = z + ((opS (some a)).length : Int) by rw [hol]; omega]
    exact z_zreturn rfl (Or.inr rfl) d_Gra_startedSum_31 (hok a t l _ _ hq (hA.push (by omega)) (fun j hj => ⟨(up_ne (by omega)).trans (hB j hj).1, (up_ne (by omega)).trans (hB j hj).2⟩) (by omega))
  · refine z_if_ne (t := 19) d_Gra_startedSum_14 (by decide) (by first | omega | exact hw _ | exact hx _ _ | assumption) (fun h => absurd h (by decide)) (fun _ => ?_)
    refine z_iconst d_Gra_startedSum_17 ?_
    exact z_zreturn rfl (Or.inl rfl) d_Gra_startedSum_18 (her t hq _ _ _ _ _ _ _)
theorem t_Gra_times {g : Bool} {d : Nat} {Q : List xM → Option Value → Prop} {fl oo pp ne tc sz pz pn : Int} {kn ff sc ts mm st vl by_ tk ps pv pw : Int → Int} {C V : Int → Int} {N : Int} (hT : TkH C V N tk pv) (hpn : pn = N + 1) {ti c : Int} (c0_ : 0 ≤ c) (c1_ : c < 12) (j0 : 0 ≤ ti) (j1 : ti < N) (ht : (C (ti + 1) = 50 ∧ 1 ≤ V (ti + 1) ∧ V (ti + 1) ≤ 20) → ti + 1 < N → Q (W_GR fl oo (ti + 2) (tkF C N (ti + 2)) pp ne tc sz pz pn kn ff sc ts (up mm c (V (ti + 1))) st vl by_ tk ps pv pw) (some (.int (ii 1)))) (hf : ¬ (C (ti + 1) = 50 ∧ 1 ≤ V (ti + 1) ∧ V (ti + 1) ≤ 20) → Q (W_GR (ps (ti + 1)) oo (ti + 1) (tkF C N (ti + 1)) pp ne tc sz pz pn kn ff sc ts mm st vl by_ tk ps pv pw) (some (.int (ii 0)))) : CT g m_Gra_times (d + 1) [.ref 0, .int (ii c)] (W_GR fl oo ti (tkF C N ti) pp ne tc sz pz pn kn ff sc ts mm st vl by_ tk ps pv pw) 0 0 Q := by
  refine CT.of (by decide) (Nat.le_of_ble_eq_true rfl) ?_
  show SJ _ _ _ _ [some (.ref 0), some (.int (ii c))] [] _ _ _ _
  have hN := hT.1
  refine j_aload_n d_Gra_times_0 rfl ?_
  refine v_call0 d_Gra_times_1 c_Gra_74 rfl ⟨_, rfl, rfl⟩ (Nat.le_of_ble_eq_true rfl) (t_Gra_advance hT hpn j0 j1 ?_)
  refine j_aload_n d_Gra_times_4 rfl ?_
  refine z_iconst d_Gra_times_5 ?_
  refine z_bipush d_Gra_times_6 (by decide) ?_
  refine v_call2 d_Gra_times_8 c_Gra_115 rfl ⟨_, rfl, rfl⟩ (Nat.le_of_ble_eq_true rfl) (t_Gra_isNumber hT hpn (by omega) (by omega) (by omega) (by omega) (by omega) (fun h8 => ?_) (fun h8 => ?_))
  · refine z_if_ne (t := 19) d_Gra_times_11 (by decide) (by first | omega | exact hw _ | exact hx _ _ | assumption) (fun _ => ?_) (fun h => absurd h (by decide))
    have hlt1 : ti + 1 < N := hT.lt (by omega) (by omega)
    have hv : pv (ti + 1) = min 1001 (V (ti + 1)) := (hT.2.2.2 (ti + 1) (by omega) (by omega)).2 h8.1
    refine j_aload_n d_Gra_times_19 rfl ?_
    refine gf_GR_0_0 f_Gra_12 d_Gra_times_20 ?_
    refine gf_GR_1_4 f_Gra_118 d_Gra_times_23 ?_
    refine j_iload_n d_Gra_times_26 rfl ?_
    refine j_aload_n d_Gra_times_27 rfl ?_
    refine gf_GR_0_2 f_Gra_38 d_Gra_times_28 ?_
    refine gf_GR_9_4 f_Gra_77 d_Gra_times_31 ?_
    refine j_aload_n d_Gra_times_34 rfl ?_
    refine gf_GR_0_4 f_Gra_26 d_Gra_times_35 ?_
    refine al_GR_13 d_Gra_times_38 (by omega) (by omega) ?_
    rw [show pv (ti + 1) = V (ti + 1) by omega]
    refine as_GR_6 d_Gra_times_39 (by omega) (by omega) ?_
    refine j_aload_n d_Gra_times_40 rfl ?_
    refine v_call0 d_Gra_times_41 c_Gra_74 rfl ⟨_, rfl, rfl⟩ (Nat.le_of_ble_eq_true rfl) (t_Gra_advance hT hpn (by omega) hlt1 ?_)
    refine z_iconst d_Gra_times_44 ?_
    rw [show ti + 1 + 1 = ti + 2 by omega]
    exact z_zreturn rfl (Or.inr rfl) d_Gra_times_45 (ht h8 hlt1)
  · refine z_if_ne (t := 19) d_Gra_times_11 (by decide) (by first | omega | exact hw _ | exact hx _ _ | assumption) (fun h => absurd h (by decide)) (fun _ => ?_)
    refine j_aload_n d_Gra_times_14 rfl ?_
    refine v_call0 d_Gra_times_15 c_Gra_65 rfl ⟨_, rfl, rfl⟩ (Nat.le_of_ble_eq_true rfl) (t_Gra_fail hT hpn (by omega) (by omega) ?_)
    exact z_zreturn rfl (Or.inl rfl) d_Gra_times_18 (hf h8)
theorem t_Gra_order0 {g : Bool} {d : Nat} {Q : List xM → Option Value → Prop} {fl tc pz pn : Int} {kn ff sc ts mm st vl by_ tk ps pv pw : Int → Int} {C V : Int → Int} {N : Int} (hT : TkH C V N tk pv) (hpn : pn = N + 1) {io fw lw : Int} (hio : (io = 0 ∧ fw = 9 ∧ lw = 16) ∨ (io = 1 ∧ fw = 14 ∧ lw = 20)) {tj lv z c : Int} (c0_ : 0 ≤ c) (c1_ : c < 12) (k0 : 0 ≤ tj) (k1 : tj < N) (v0 : 0 ≤ lv) (v1 : lv ≤ 50) (z0_ : 0 ≤ z) (z1_ : z ≤ tj) (f0 : ff c = -1) (f1 : sc c = -1) (f2 : mm c = 1) (hok : ∀ (a b : Option SXC) (tm t l : Int) (st_ vl_ ff_ sc_ mm_ : Int → Int), pOrd C V (pS C V io fw lw 9) (pT C V io fw lw 9) tj lv = pTail C (pT C V io fw lw 9) (C tj) a b tm t l → (tj < t ∧ t ≤ N ∧ 0 ≤ l ∧ l ≤ 50) → At st_ vl_ z (opS a ++ opS b) → (∀ j, j < z → st_ j = st j ∧ vl_ j = vl j) → z + ((opS a).length : Int) + ((opS b).length : Int) ≤ t → (∀ j, j < c → ff_ j = ff j ∧ sc_ j = sc j ∧ mm_ j = mm j) → ff_ c = (if a.isSome then z else -1) → sc_ c = (if b.isSome then z + ((opS a).length : Int) else -1) → mm_ c = tm → Q (W_GR fl io t (tkF C N t) l 0 tc (z + ((opS a).length : Int) + ((opS b).length : Int)) pz pn kn ff_ sc_ ts mm_ st_ vl_ by_ tk ps pv pw) (some (.int (ii 1)))) (her : ∀ (t : Int), pOrd C V (pS C V io fw lw 9) (pT C V io fw lw 9) tj lv = .inr t → ∀ (nx_ tn_ pp_ ne_ sz_ : Int) (st_ vl_ ff_ sc_ : Int → Int), Q (W_GR (ps t) io nx_ tn_ pp_ ne_ tc sz_ pz pn kn ff_ sc_ ts mm st_ vl_ by_ tk ps pv pw) (some (.int (ii 0)))) (hhd : C tj = 21) : CT g m_Gra_order (d + 32) [.ref 0, .int (ii c), .int (ii 0)] (W_GR fl io (tj + 1) (tkF C N (tj + 1)) lv 0 tc z pz pn kn ff sc ts mm st vl by_ tk ps pv pw) 0 0 Q := by
  refine CT.of (by decide) (Nat.le_of_ble_eq_true rfl) ?_
  show SJ _ _ _ _ [some (.ref 0), some (.int (ii c)), some (.int (ii 0))] [] _ _ _ _
  have hN := hT.1
  refine j_iload_n d_Gra_order_0 rfl ?_
  refine z_iconst d_Gra_order_1 ?_
  refine z_icmp_eq (t := 22) d_Gra_order_2 (by decide) (by first | omega | exact hw _ | exact hx _ _ | assumption) (by first | omega | exact hw _ | exact hx _ _ | assumption) (fun h => absurd h (by decide)) (fun _ => ?_)
  refine j_aload_n d_Gra_order_5 rfl ?_
  refine j_aload_n d_Gra_order_6 rfl ?_
  refine gf_GR_0_0 f_Gra_12 d_Gra_order_7 ?_
  refine gf_GR_1_1 f_Gra_88 d_Gra_order_10 ?_
  refine j_iload_n d_Gra_order_13 rfl ?_
  refine v_call2 d_Gra_order_14 c_Gra_91 rfl ⟨_, rfl, rfl⟩ (Nat.le_of_ble_eq_true rfl) (t_Gra_startedSum3 hT hpn hio c0_ c1_ (by omega) (by omega) v0 v1 z0_ (by omega) (fun a1 t1 l1 st1 vl1 hq1 hA1 hB1 hC1 => ?_) (fun t1 hq1 nx2 tn2 pp2 ne2 sz2 st1 vl1 => ?_))
  · refine z_if_ne (t := 22) d_Gra_order_17 (by decide) (by first | omega | exact hw _ | exact hx _ _ | assumption) (fun _ => ?_) (fun h => absurd h (by decide))
    have hg1 := (pS_R hT.2.1 (by omega) 9 (tj + 1) lv (by omega) (by omega) (by omega) (by omega)).1 _ _ _ hq1
    refine j_iload_n d_Gra_order_22 rfl ?_
    refine z_if_ne (t := 53) d_Gra_order_23 (by decide) (by first | omega | exact hw _ | exact hx _ _ | assumption) (fun h => absurd h (by decide)) (fun _ => ?_)
    refine j_aload_n d_Gra_order_26 rfl ?_
    refine z_sipush d_Gra_order_27 (by decide) ?_
    refine v_call1 d_Gra_order_30 c_Gra_61 rfl ⟨_, rfl, rfl⟩ (Nat.le_of_ble_eq_true rfl) (t_Gra_take (w := 22) hT hpn (by omega) (by omega) (hT.w (by omega) (by omega) (by decide) (by decide) (by decide)) (by decide) (by omega) (fun hmid hmidl => ?_) (fun hmid => ?_))
    · refine z_if_eq (t := 51) d_Gra_order_33 (by decide) (by first | omega | exact hw _ | exact hx _ _ | assumption) (fun h => absurd h (by decide)) (fun _ => ?_)
      refine j_aload_n d_Gra_order_36 rfl ?_
      refine j_aload_n d_Gra_order_37 rfl ?_
      refine gf_GR_0_0 f_Gra_12 d_Gra_order_38 ?_
      refine gf_GR_1_2 f_Gra_106 d_Gra_order_41 ?_
      refine j_iload_n d_Gra_order_44 rfl ?_
      refine v_call2 d_Gra_order_45 c_Gra_91 rfl ⟨_, rfl, rfl⟩ (Nat.le_of_ble_eq_true rfl) (t_Gra_startedSum4 hT hpn hio c0_ c1_ (ti := t1 + 1) (lv := l1) (z := z + ((opS (some a1)).length : Int)) (by omega) (by omega) (by omega) (by omega) (by omega) (by omega) (fun a2 t2 l2 st2 vl2 hq2 hA2 hB2 hC2 => ?_) (fun t2 hq2 nx2 tn2 pp2 ne2 sz2 st2 vl2 => ?_))
      · refine z_if_ne (t := 53) d_Gra_order_48 (by decide) (by first | omega | exact hw _ | exact hx _ _ | assumption) (fun _ => ?_) (fun h => absurd h (by decide))
        refine j_iload_n d_Gra_order_53 rfl ?_
        refine z_iconst d_Gra_order_54 ?_
        refine z_icmp_ne (t := 85) d_Gra_order_55 (by decide) (by first | omega | exact hw _ | exact hx _ _ | assumption) (by first | omega | exact hw _ | exact hx _ _ | assumption) (fun _ => ?_) (fun h => absurd h (by decide))
        have hg2 := (pS_R hT.2.1 (by omega) 9 (t1 + 1) l1 (by omega) (by omega) (by omega) (by omega)).1 _ _ _ hq2
        have hRt := hT.R (show 0 ≤ t2 by omega)
        have h27_ := hT.w (show 0 ≤ t2 by omega) (show t2 ≤ N by omega) (w := 27) (v := 270) (by decide) (by decide) (by decide)
        refine j_aload_n d_Gra_order_85 rfl ?_
        refine gf_GR_0_5 f_Gra_29 d_Gra_order_86 ?_
        refine z_sipush d_Gra_order_89 (by decide) ?_
        refine z_icmp_ne (t := 103) d_Gra_order_92 (by decide) (by first | omega | exact hw _ | exact hx _ _ | assumption) (by first | omega | exact hw _ | exact hx _ _ | assumption) (fun h92 => ?_) (fun h92 => ?_)
        · first
          | (have hn27 : ¬ C t2 = 27 := fun q => absurd (h27_.mpr q) (by omega))
          | skip
          refine z_iconst d_Gra_order_103 ?_
          refine j_goto (t := 108) d_Gra_order_104 (by decide) ?_
          first
          | (exact z_zreturn rfl (Or.inr rfl) d_Gra_order_108 (hok (some a1) (some a2) 1 t2 l2 st2 vl2 _ _ _ (by rw [pOrd_21 hhd, pTwo_4 hq1 hmid hq2, pTm_no hn27]; rw [hhd]) (by omega) ((hA1.keep hB2).app hA2) (fun j hj => ⟨(hB2 j (by omega)).1.trans (hB1 j hj).1, (hB2 j (by omega)).2.trans (hB1 j hj).2⟩) (by first | omega | (have h0_ : ((opS none).length : Int) = 0 := rfl; omega)) (fun j hj => ⟨up_ne (by omega), up_ne (by omega), rfl⟩) up_eq up_eq f2))
          | (exact z_zreturn rfl (Or.inr rfl) d_Gra_order_108 (hok (some a1) (some a2) _ _ l2 st2 vl2 _ _ _ (by rw [pOrd_21 hhd, pTwo_4 hq1 hmid hq2, pTm_yes h27 h97]; rw [hhd]) (by omega) ((hA1.keep hB2).app hA2) (fun j hj => ⟨(hB2 j (by omega)).1.trans (hB1 j hj).1, (hB2 j (by omega)).2.trans (hB1 j hj).2⟩) (by first | omega | (have h0_ : ((opS none).length : Int) = 0 := rfl; omega)) (fun j hj => ⟨up_ne (by omega), up_ne (by omega), up_ne (by omega)⟩) up_eq up_eq up_eq))
        · have h27 : C t2 = 27 := h27_.mp (by omega)
          have hlt27 : t2 < N := hT.lt (by omega) (by omega)
          refine j_aload_n d_Gra_order_95 rfl ?_
          refine j_iload_n d_Gra_order_96 rfl ?_
          refine v_call1 d_Gra_order_97 c_Gra_109 rfl ⟨_, rfl, rfl⟩ (Nat.le_of_ble_eq_true rfl) (t_Gra_times hT hpn c0_ c1_ (by omega) hlt27 (fun h97 h97l => ?_) (fun h97 => ?_))
          · refine z_if_eq (t := 107) d_Gra_order_100 (by decide) (by first | omega | exact hw _ | exact hx _ _ | assumption) (fun h => absurd h (by decide)) (fun _ => ?_)
            first
            | (have hn27 : ¬ C t2 = 27 := fun q => absurd (h27_.mpr q) (by omega))
            | skip
            refine z_iconst d_Gra_order_103 ?_
            refine j_goto (t := 108) d_Gra_order_104 (by decide) ?_
            first
            | (exact z_zreturn rfl (Or.inr rfl) d_Gra_order_108 (hok (some a1) (some a2) 1 t2 l2 st2 vl2 _ _ _ (by rw [pOrd_21 hhd, pTwo_4 hq1 hmid hq2, pTm_no hn27]; rw [hhd]) (by omega) ((hA1.keep hB2).app hA2) (fun j hj => ⟨(hB2 j (by omega)).1.trans (hB1 j hj).1, (hB2 j (by omega)).2.trans (hB1 j hj).2⟩) (by first | omega | (have h0_ : ((opS none).length : Int) = 0 := rfl; omega)) (fun j hj => ⟨up_ne (by omega), up_ne (by omega), rfl⟩) up_eq up_eq f2))
            | (exact z_zreturn rfl (Or.inr rfl) d_Gra_order_108 (hok (some a1) (some a2) _ _ l2 st2 vl2 _ _ _ (by rw [pOrd_21 hhd, pTwo_4 hq1 hmid hq2, pTm_yes h27 h97]; rw [hhd]) (by omega) ((hA1.keep hB2).app hA2) (fun j hj => ⟨(hB2 j (by omega)).1.trans (hB1 j hj).1, (hB2 j (by omega)).2.trans (hB1 j hj).2⟩) (by first | omega | (have h0_ : ((opS none).length : Int) = 0 := rfl; omega)) (fun j hj => ⟨up_ne (by omega), up_ne (by omega), up_ne (by omega)⟩) up_eq up_eq up_eq))
          · refine z_if_eq (t := 107) d_Gra_order_100 (by decide) (by first | omega | exact hw _ | exact hx _ _ | assumption) (fun _ => ?_) (fun h => absurd h (by decide))
            refine z_iconst d_Gra_order_107 ?_
            first
            | exact z_zreturn rfl (Or.inl rfl) d_Gra_order_108 (her t1 (by rw [pOrd_21 hhd, pTwo_1 hq1])  _ _ _ _ _ _ _ _ _)
            | exact z_zreturn rfl (Or.inl rfl) d_Gra_order_108 (her t1 (by rw [pOrd_21 hhd, pTwo_2 hq1 hmid])  _ _ _ _ _ _ _ _ _)
            | exact z_zreturn rfl (Or.inl rfl) d_Gra_order_108 (her t2 (by rw [pOrd_21 hhd, pTwo_3 hq1 hmid hq2])  _ _ _ _ _ _ _ _ _)
            | exact z_zreturn rfl (Or.inl rfl) d_Gra_order_108 (her _ (by rw [pOrd_21 hhd, pTwo_4 hq1 hmid hq2, pTm_er h27 h97])  _ _ _ _ _ _ _ _ _)
      · refine z_if_ne (t := 53) d_Gra_order_48 (by decide) (by first | omega | exact hw _ | exact hx _ _ | assumption) (fun h => absurd h (by decide)) (fun _ => ?_)
        refine z_iconst d_Gra_order_51 ?_
        first
        | exact z_zreturn rfl (Or.inl rfl) d_Gra_order_52 (her t1 (by rw [pOrd_21 hhd, pTwo_1 hq1])  _ _ _ _ _ _ _ _ _)
        | exact z_zreturn rfl (Or.inl rfl) d_Gra_order_52 (her t1 (by rw [pOrd_21 hhd, pTwo_2 hq1 hmid])  _ _ _ _ _ _ _ _ _)
        | exact z_zreturn rfl (Or.inl rfl) d_Gra_order_52 (her t2 (by rw [pOrd_21 hhd, pTwo_3 hq1 hmid hq2])  _ _ _ _ _ _ _ _ _)
        | exact z_zreturn rfl (Or.inl rfl) d_Gra_order_52 (her _ (by rw [pOrd_21 hhd, pTwo_4 hq1 hmid hq2, pTm_er h27 h97])  _ _ _ _ _ _ _ _ _)
    · refine z_if_eq (t := 51) d_Gra_order_33 (by decide) (by first | omega | exact hw _ | exact hx _ _ | assumption) (fun _ => ?_) (fun h => absurd h (by decide))
      refine z_iconst d_Gra_order_51 ?_
      first
      | exact z_zreturn rfl (Or.inl rfl) d_Gra_order_52 (her t1 (by rw [pOrd_21 hhd, pTwo_1 hq1])  _ _ _ _ _ _ _ _ _)
      | exact z_zreturn rfl (Or.inl rfl) d_Gra_order_52 (her t1 (by rw [pOrd_21 hhd, pTwo_2 hq1 hmid])  _ _ _ _ _ _ _ _ _)
      | exact z_zreturn rfl (Or.inl rfl) d_Gra_order_52 (her t2 (by rw [pOrd_21 hhd, pTwo_3 hq1 hmid hq2])  _ _ _ _ _ _ _ _ _)
      | exact z_zreturn rfl (Or.inl rfl) d_Gra_order_52 (her _ (by rw [pOrd_21 hhd, pTwo_4 hq1 hmid hq2, pTm_er h27 h97])  _ _ _ _ _ _ _ _ _)
  · refine z_if_ne (t := 22) d_Gra_order_17 (by decide) (by first | omega | exact hw _ | exact hx _ _ | assumption) (fun h => absurd h (by decide)) (fun _ => ?_)
    refine z_iconst d_Gra_order_20 ?_
    first
    | exact z_zreturn rfl (Or.inl rfl) d_Gra_order_21 (her t1 (by rw [pOrd_21 hhd, pTwo_1 hq1])  _ _ _ _ _ _ _ _ _)
    | exact z_zreturn rfl (Or.inl rfl) d_Gra_order_21 (her t1 (by rw [pOrd_21 hhd, pTwo_2 hq1 hmid])  _ _ _ _ _ _ _ _ _)
    | exact z_zreturn rfl (Or.inl rfl) d_Gra_order_21 (her t2 (by rw [pOrd_21 hhd, pTwo_3 hq1 hmid hq2])  _ _ _ _ _ _ _ _ _)
    | exact z_zreturn rfl (Or.inl rfl) d_Gra_order_21 (her _ (by rw [pOrd_21 hhd, pTwo_4 hq1 hmid hq2, pTm_er h27 h97])  _ _ _ _ _ _ _ _ _)
theorem t_Gra_order1 {g : Bool} {d : Nat} {Q : List xM → Option Value → Prop} {fl tc pz pn : Int} {kn ff sc ts mm st vl by_ tk ps pv pw : Int → Int} {C V : Int → Int} {N : Int} (hT : TkH C V N tk pv) (hpn : pn = N + 1) {io fw lw : Int} (hio : (io = 0 ∧ fw = 9 ∧ lw = 16) ∨ (io = 1 ∧ fw = 14 ∧ lw = 20)) {tj lv z c : Int} (c0_ : 0 ≤ c) (c1_ : c < 12) (k0 : 0 ≤ tj) (k1 : tj < N) (v0 : 0 ≤ lv) (v1 : lv ≤ 50) (z0_ : 0 ≤ z) (z1_ : z ≤ tj) (f0 : ff c = -1) (f1 : sc c = -1) (f2 : mm c = 1) (hok : ∀ (a b : Option SXC) (tm t l : Int) (st_ vl_ ff_ sc_ mm_ : Int → Int), pOrd C V (pS C V io fw lw 9) (pT C V io fw lw 9) tj lv = pTail C (pT C V io fw lw 9) (C tj) a b tm t l → (tj < t ∧ t ≤ N ∧ 0 ≤ l ∧ l ≤ 50) → At st_ vl_ z (opS a ++ opS b) → (∀ j, j < z → st_ j = st j ∧ vl_ j = vl j) → z + ((opS a).length : Int) + ((opS b).length : Int) ≤ t → (∀ j, j < c → ff_ j = ff j ∧ sc_ j = sc j ∧ mm_ j = mm j) → ff_ c = (if a.isSome then z else -1) → sc_ c = (if b.isSome then z + ((opS a).length : Int) else -1) → mm_ c = tm → Q (W_GR fl io t (tkF C N t) l 0 tc (z + ((opS a).length : Int) + ((opS b).length : Int)) pz pn kn ff_ sc_ ts mm_ st_ vl_ by_ tk ps pv pw) (some (.int (ii 1)))) (her : ∀ (t : Int), pOrd C V (pS C V io fw lw 9) (pT C V io fw lw 9) tj lv = .inr t → ∀ (nx_ tn_ pp_ ne_ sz_ : Int) (st_ vl_ ff_ sc_ : Int → Int), Q (W_GR (ps t) io nx_ tn_ pp_ ne_ tc sz_ pz pn kn ff_ sc_ ts mm st_ vl_ by_ tk ps pv pw) (some (.int (ii 0)))) (hhd : C tj = 23) : CT g m_Gra_order (d + 32) [.ref 0, .int (ii c), .int (ii 1)] (W_GR fl io (tj + 1) (tkF C N (tj + 1)) lv 0 tc z pz pn kn ff sc ts mm st vl by_ tk ps pv pw) 0 0 Q := by
  refine CT.of (by decide) (Nat.le_of_ble_eq_true rfl) ?_
  show SJ _ _ _ _ [some (.ref 0), some (.int (ii c)), some (.int (ii 1))] [] _ _ _ _
  have hN := hT.1
  refine j_iload_n d_Gra_order_0 rfl ?_
  refine z_iconst d_Gra_order_1 ?_
  refine z_icmp_eq (t := 22) d_Gra_order_2 (by decide) (by first | omega | exact hw _ | exact hx _ _ | assumption) (by first | omega | exact hw _ | exact hx _ _ | assumption) (fun h => absurd h (by decide)) (fun _ => ?_)
  refine j_aload_n d_Gra_order_5 rfl ?_
  refine j_aload_n d_Gra_order_6 rfl ?_
  refine gf_GR_0_0 f_Gra_12 d_Gra_order_7 ?_
  refine gf_GR_1_1 f_Gra_88 d_Gra_order_10 ?_
  refine j_iload_n d_Gra_order_13 rfl ?_
  refine v_call2 d_Gra_order_14 c_Gra_91 rfl ⟨_, rfl, rfl⟩ (Nat.le_of_ble_eq_true rfl) (t_Gra_startedSum3 hT hpn hio c0_ c1_ (by omega) (by omega) v0 v1 z0_ (by omega) (fun a1 t1 l1 st1 vl1 hq1 hA1 hB1 hC1 => ?_) (fun t1 hq1 nx2 tn2 pp2 ne2 sz2 st1 vl1 => ?_))
  · refine z_if_ne (t := 22) d_Gra_order_17 (by decide) (by first | omega | exact hw _ | exact hx _ _ | assumption) (fun _ => ?_) (fun h => absurd h (by decide))
    have hg1 := (pS_R hT.2.1 (by omega) 9 (tj + 1) lv (by omega) (by omega) (by omega) (by omega)).1 _ _ _ hq1
    refine j_iload_n d_Gra_order_22 rfl ?_
    refine z_if_ne (t := 53) d_Gra_order_23 (by decide) (by first | omega | exact hw _ | exact hx _ _ | assumption) (fun _ => ?_) (fun h => absurd h (by decide))
    refine j_iload_n d_Gra_order_53 rfl ?_
    refine z_iconst d_Gra_order_54 ?_
    refine z_icmp_ne (t := 85) d_Gra_order_55 (by decide) (by first | omega | exact hw _ | exact hx _ _ | assumption) (by first | omega | exact hw _ | exact hx _ _ | assumption) (fun _ => ?_) (fun h => absurd h (by decide))
    have hRt := hT.R (show 0 ≤ t1 by omega)
    have h27_ := hT.w (show 0 ≤ t1 by omega) (show t1 ≤ N by omega) (w := 27) (v := 270) (by decide) (by decide) (by decide)
    refine j_aload_n d_Gra_order_85 rfl ?_
    refine gf_GR_0_5 f_Gra_29 d_Gra_order_86 ?_
    refine z_sipush d_Gra_order_89 (by decide) ?_
    refine z_icmp_ne (t := 103) d_Gra_order_92 (by decide) (by first | omega | exact hw _ | exact hx _ _ | assumption) (by first | omega | exact hw _ | exact hx _ _ | assumption) (fun h92 => ?_) (fun h92 => ?_)
    · first
      | (have hn27 : ¬ C t1 = 27 := fun q => absurd (h27_.mpr q) (by omega))
      | skip
      refine z_iconst d_Gra_order_103 ?_
      refine j_goto (t := 108) d_Gra_order_104 (by decide) ?_
      first
      | (rw [show z + ((opS (some a1)).length : Int) = z + ((opS (some a1)).length : Int) + ((opS none).length : Int) from (Int.add_zero _).symm]
         exact z_zreturn rfl (Or.inr rfl) d_Gra_order_108 (hok (some a1) none 1 t1 l1 st1 vl1 _ _ _ (by rw [pOrd_23 hhd hq1, pTm_no hn27]; rw [hhd]) (by omega) (by rw [show opS (some a1) ++ opS none = opS (some a1) from List.append_nil _]; exact hA1) hB1 (by first | omega | (have h0_ : ((opS none).length : Int) = 0 := rfl; omega)) (fun j hj => ⟨up_ne (by omega), rfl, rfl⟩) up_eq f1 f2))
      | (rw [show z + ((opS (some a1)).length : Int) = z + ((opS (some a1)).length : Int) + ((opS none).length : Int) from (Int.add_zero _).symm]
         exact z_zreturn rfl (Or.inr rfl) d_Gra_order_108 (hok (some a1) none _ _ l1 st1 vl1 _ _ _ (by rw [pOrd_23 hhd hq1, pTm_yes h27 h97]; rw [hhd]) (by omega) (by rw [show opS (some a1) ++ opS none = opS (some a1) from List.append_nil _]; exact hA1) hB1 (by first | omega | (have h0_ : ((opS none).length : Int) = 0 := rfl; omega)) (fun j hj => ⟨up_ne (by omega), rfl, up_ne (by omega)⟩) up_eq f1 up_eq))
    · have h27 : C t1 = 27 := h27_.mp (by omega)
      have hlt27 : t1 < N := hT.lt (by omega) (by omega)
      refine j_aload_n d_Gra_order_95 rfl ?_
      refine j_iload_n d_Gra_order_96 rfl ?_
      refine v_call1 d_Gra_order_97 c_Gra_109 rfl ⟨_, rfl, rfl⟩ (Nat.le_of_ble_eq_true rfl) (t_Gra_times hT hpn c0_ c1_ (by omega) hlt27 (fun h97 h97l => ?_) (fun h97 => ?_))
      · refine z_if_eq (t := 107) d_Gra_order_100 (by decide) (by first | omega | exact hw _ | exact hx _ _ | assumption) (fun h => absurd h (by decide)) (fun _ => ?_)
        first
        | (have hn27 : ¬ C t1 = 27 := fun q => absurd (h27_.mpr q) (by omega))
        | skip
        refine z_iconst d_Gra_order_103 ?_
        refine j_goto (t := 108) d_Gra_order_104 (by decide) ?_
        first
        | (rw [show z + ((opS (some a1)).length : Int) = z + ((opS (some a1)).length : Int) + ((opS none).length : Int) from (Int.add_zero _).symm]
           exact z_zreturn rfl (Or.inr rfl) d_Gra_order_108 (hok (some a1) none 1 t1 l1 st1 vl1 _ _ _ (by rw [pOrd_23 hhd hq1, pTm_no hn27]; rw [hhd]) (by omega) (by rw [show opS (some a1) ++ opS none = opS (some a1) from List.append_nil _]; exact hA1) hB1 (by first | omega | (have h0_ : ((opS none).length : Int) = 0 := rfl; omega)) (fun j hj => ⟨up_ne (by omega), rfl, rfl⟩) up_eq f1 f2))
        | (rw [show z + ((opS (some a1)).length : Int) = z + ((opS (some a1)).length : Int) + ((opS none).length : Int) from (Int.add_zero _).symm]
           exact z_zreturn rfl (Or.inr rfl) d_Gra_order_108 (hok (some a1) none _ _ l1 st1 vl1 _ _ _ (by rw [pOrd_23 hhd hq1, pTm_yes h27 h97]; rw [hhd]) (by omega) (by rw [show opS (some a1) ++ opS none = opS (some a1) from List.append_nil _]; exact hA1) hB1 (by first | omega | (have h0_ : ((opS none).length : Int) = 0 := rfl; omega)) (fun j hj => ⟨up_ne (by omega), rfl, up_ne (by omega)⟩) up_eq f1 up_eq))
      · refine z_if_eq (t := 107) d_Gra_order_100 (by decide) (by first | omega | exact hw _ | exact hx _ _ | assumption) (fun _ => ?_) (fun h => absurd h (by decide))
        refine z_iconst d_Gra_order_107 ?_
        first
        | exact z_zreturn rfl (Or.inl rfl) d_Gra_order_108 (her t1 (by rw [pOrd_23e hhd hq1])  _ _ _ _ _ _ _ _ _)
        | exact z_zreturn rfl (Or.inl rfl) d_Gra_order_108 (her _ (by rw [pOrd_23 hhd hq1, pTm_er h27 h97])  _ _ _ _ _ _ _ _ _)
  · refine z_if_ne (t := 22) d_Gra_order_17 (by decide) (by first | omega | exact hw _ | exact hx _ _ | assumption) (fun h => absurd h (by decide)) (fun _ => ?_)
    refine z_iconst d_Gra_order_20 ?_
    first
    | exact z_zreturn rfl (Or.inl rfl) d_Gra_order_21 (her t1 (by rw [pOrd_23e hhd hq1])  _ _ _ _ _ _ _ _ _)
    | exact z_zreturn rfl (Or.inl rfl) d_Gra_order_21 (her _ (by rw [pOrd_23 hhd hq1, pTm_er h27 h97])  _ _ _ _ _ _ _ _ _)
theorem t_Gra_order2 {g : Bool} {d : Nat} {Q : List xM → Option Value → Prop} {fl tc pz pn : Int} {kn ff sc ts mm st vl by_ tk ps pv pw : Int → Int} {C V : Int → Int} {N : Int} (hT : TkH C V N tk pv) (hpn : pn = N + 1) {io fw lw : Int} (hio : (io = 0 ∧ fw = 9 ∧ lw = 16) ∨ (io = 1 ∧ fw = 14 ∧ lw = 20)) {tj lv z c : Int} (c0_ : 0 ≤ c) (c1_ : c < 12) (k0 : 0 ≤ tj) (k1 : tj < N) (v0 : 0 ≤ lv) (v1 : lv ≤ 50) (z0_ : 0 ≤ z) (z1_ : z ≤ tj) (f0 : ff c = -1) (f1 : sc c = -1) (f2 : mm c = 1) (hok : ∀ (a b : Option SXC) (tm t l : Int) (st_ vl_ ff_ sc_ mm_ : Int → Int), pOrd C V (pS C V io fw lw 9) (pT C V io fw lw 9) tj lv = pTail C (pT C V io fw lw 9) (C tj) a b tm t l → (tj < t ∧ t ≤ N ∧ 0 ≤ l ∧ l ≤ 50) → At st_ vl_ z (opS a ++ opS b) → (∀ j, j < z → st_ j = st j ∧ vl_ j = vl j) → z + ((opS a).length : Int) + ((opS b).length : Int) ≤ t → (∀ j, j < c → ff_ j = ff j ∧ sc_ j = sc j ∧ mm_ j = mm j) → ff_ c = (if a.isSome then z else -1) → sc_ c = (if b.isSome then z + ((opS a).length : Int) else -1) → mm_ c = tm → Q (W_GR fl io t (tkF C N t) l 0 tc (z + ((opS a).length : Int) + ((opS b).length : Int)) pz pn kn ff_ sc_ ts mm_ st_ vl_ by_ tk ps pv pw) (some (.int (ii 1)))) (her : ∀ (t : Int), pOrd C V (pS C V io fw lw 9) (pT C V io fw lw 9) tj lv = .inr t → ∀ (nx_ tn_ pp_ ne_ sz_ : Int) (st_ vl_ ff_ sc_ : Int → Int), Q (W_GR (ps t) io nx_ tn_ pp_ ne_ tc sz_ pz pn kn ff_ sc_ ts mm st_ vl_ by_ tk ps pv pw) (some (.int (ii 0)))) (hhd : C tj = 24) : CT g m_Gra_order (d + 32) [.ref 0, .int (ii c), .int (ii 2)] (W_GR fl io (tj + 1) (tkF C N (tj + 1)) lv 0 tc z pz pn kn ff sc ts mm st vl by_ tk ps pv pw) 0 0 Q := by
  refine CT.of (by decide) (Nat.le_of_ble_eq_true rfl) ?_
  show SJ _ _ _ _ [some (.ref 0), some (.int (ii c)), some (.int (ii 2))] [] _ _ _ _
  have hN := hT.1
  refine j_iload_n d_Gra_order_0 rfl ?_
  refine z_iconst d_Gra_order_1 ?_
  refine z_icmp_eq (t := 22) d_Gra_order_2 (by decide) (by first | omega | exact hw _ | exact hx _ _ | assumption) (by first | omega | exact hw _ | exact hx _ _ | assumption) (fun h => absurd h (by decide)) (fun _ => ?_)
  refine j_aload_n d_Gra_order_5 rfl ?_
  refine j_aload_n d_Gra_order_6 rfl ?_
  refine gf_GR_0_0 f_Gra_12 d_Gra_order_7 ?_
  refine gf_GR_1_1 f_Gra_88 d_Gra_order_10 ?_
  refine j_iload_n d_Gra_order_13 rfl ?_
  refine v_call2 d_Gra_order_14 c_Gra_91 rfl ⟨_, rfl, rfl⟩ (Nat.le_of_ble_eq_true rfl) (t_Gra_startedSum3 hT hpn hio c0_ c1_ (by omega) (by omega) v0 v1 z0_ (by omega) (fun a1 t1 l1 st1 vl1 hq1 hA1 hB1 hC1 => ?_) (fun t1 hq1 nx2 tn2 pp2 ne2 sz2 st1 vl1 => ?_))
  · refine z_if_ne (t := 22) d_Gra_order_17 (by decide) (by first | omega | exact hw _ | exact hx _ _ | assumption) (fun _ => ?_) (fun h => absurd h (by decide))
    have hg1 := (pS_R hT.2.1 (by omega) 9 (tj + 1) lv (by omega) (by omega) (by omega) (by omega)).1 _ _ _ hq1
    refine j_iload_n d_Gra_order_22 rfl ?_
    refine z_if_ne (t := 53) d_Gra_order_23 (by decide) (by first | omega | exact hw _ | exact hx _ _ | assumption) (fun _ => ?_) (fun h => absurd h (by decide))
    refine j_iload_n d_Gra_order_53 rfl ?_
    refine z_iconst d_Gra_order_54 ?_
    refine z_icmp_ne (t := 85) d_Gra_order_55 (by decide) (by first | omega | exact hw _ | exact hx _ _ | assumption) (by first | omega | exact hw _ | exact hx _ _ | assumption) (fun h => absurd h (by decide)) (fun _ => ?_)
    refine j_aload_n d_Gra_order_58 rfl ?_
    refine z_sipush d_Gra_order_59 (by decide) ?_
    refine v_call1 d_Gra_order_62 c_Gra_61 rfl ⟨_, rfl, rfl⟩ (Nat.le_of_ble_eq_true rfl) (t_Gra_take (w := 25) hT hpn (by omega) (by omega) (hT.w (by omega) (by omega) (by decide) (by decide) (by decide)) (by decide) (by omega) (fun hmid hmidl => ?_) (fun hmid => ?_))
    · refine z_if_eq (t := 83) d_Gra_order_65 (by decide) (by first | omega | exact hw _ | exact hx _ _ | assumption) (fun h => absurd h (by decide)) (fun _ => ?_)
      refine j_aload_n d_Gra_order_68 rfl ?_
      refine j_aload_n d_Gra_order_69 rfl ?_
      refine gf_GR_0_0 f_Gra_12 d_Gra_order_70 ?_
      refine gf_GR_1_2 f_Gra_106 d_Gra_order_73 ?_
      refine j_iload_n d_Gra_order_76 rfl ?_
      refine v_call2 d_Gra_order_77 c_Gra_91 rfl ⟨_, rfl, rfl⟩ (Nat.le_of_ble_eq_true rfl) (t_Gra_startedSum4 hT hpn hio c0_ c1_ (ti := t1 + 1) (lv := l1) (z := z + ((opS (some a1)).length : Int)) (by omega) (by omega) (by omega) (by omega) (by omega) (by omega) (fun a2 t2 l2 st2 vl2 hq2 hA2 hB2 hC2 => ?_) (fun t2 hq2 nx2 tn2 pp2 ne2 sz2 st2 vl2 => ?_))
      · refine z_if_ne (t := 85) d_Gra_order_80 (by decide) (by first | omega | exact hw _ | exact hx _ _ | assumption) (fun _ => ?_) (fun h => absurd h (by decide))
        have hg2 := (pS_R hT.2.1 (by omega) 9 (t1 + 1) l1 (by omega) (by omega) (by omega) (by omega)).1 _ _ _ hq2
        have hRt := hT.R (show 0 ≤ t2 by omega)
        have h27_ := hT.w (show 0 ≤ t2 by omega) (show t2 ≤ N by omega) (w := 27) (v := 270) (by decide) (by decide) (by decide)
        refine j_aload_n d_Gra_order_85 rfl ?_
        refine gf_GR_0_5 f_Gra_29 d_Gra_order_86 ?_
        refine z_sipush d_Gra_order_89 (by decide) ?_
        refine z_icmp_ne (t := 103) d_Gra_order_92 (by decide) (by first | omega | exact hw _ | exact hx _ _ | assumption) (by first | omega | exact hw _ | exact hx _ _ | assumption) (fun h92 => ?_) (fun h92 => ?_)
        · first
          | (have hn27 : ¬ C t2 = 27 := fun q => absurd (h27_.mpr q) (by omega))
          | skip
          refine z_iconst d_Gra_order_103 ?_
          refine j_goto (t := 108) d_Gra_order_104 (by decide) ?_
          first
          | (exact z_zreturn rfl (Or.inr rfl) d_Gra_order_108 (hok (some a1) (some a2) 1 t2 l2 st2 vl2 _ _ _ (by rw [pOrd_24 hhd, pTwo_4 hq1 hmid hq2, pTm_no hn27]; rw [hhd]) (by omega) ((hA1.keep hB2).app hA2) (fun j hj => ⟨(hB2 j (by omega)).1.trans (hB1 j hj).1, (hB2 j (by omega)).2.trans (hB1 j hj).2⟩) (by first | omega | (have h0_ : ((opS none).length : Int) = 0 := rfl; omega)) (fun j hj => ⟨up_ne (by omega), up_ne (by omega), rfl⟩) up_eq up_eq f2))
          | (exact z_zreturn rfl (Or.inr rfl) d_Gra_order_108 (hok (some a1) (some a2) _ _ l2 st2 vl2 _ _ _ (by rw [pOrd_24 hhd, pTwo_4 hq1 hmid hq2, pTm_yes h27 h97]; rw [hhd]) (by omega) ((hA1.keep hB2).app hA2) (fun j hj => ⟨(hB2 j (by omega)).1.trans (hB1 j hj).1, (hB2 j (by omega)).2.trans (hB1 j hj).2⟩) (by first | omega | (have h0_ : ((opS none).length : Int) = 0 := rfl; omega)) (fun j hj => ⟨up_ne (by omega), up_ne (by omega), up_ne (by omega)⟩) up_eq up_eq up_eq))
        · have h27 : C t2 = 27 := h27_.mp (by omega)
          have hlt27 : t2 < N := hT.lt (by omega) (by omega)
          refine j_aload_n d_Gra_order_95 rfl ?_
          refine j_iload_n d_Gra_order_96 rfl ?_
          refine v_call1 d_Gra_order_97 c_Gra_109 rfl ⟨_, rfl, rfl⟩ (Nat.le_of_ble_eq_true rfl) (t_Gra_times hT hpn c0_ c1_ (by omega) hlt27 (fun h97 h97l => ?_) (fun h97 => ?_))
          · refine z_if_eq (t := 107) d_Gra_order_100 (by decide) (by first | omega | exact hw _ | exact hx _ _ | assumption) (fun h => absurd h (by decide)) (fun _ => ?_)
            first
            | (have hn27 : ¬ C t2 = 27 := fun q => absurd (h27_.mpr q) (by omega))
            | skip
            refine z_iconst d_Gra_order_103 ?_
            refine j_goto (t := 108) d_Gra_order_104 (by decide) ?_
            first
            | (exact z_zreturn rfl (Or.inr rfl) d_Gra_order_108 (hok (some a1) (some a2) 1 t2 l2 st2 vl2 _ _ _ (by rw [pOrd_24 hhd, pTwo_4 hq1 hmid hq2, pTm_no hn27]; rw [hhd]) (by omega) ((hA1.keep hB2).app hA2) (fun j hj => ⟨(hB2 j (by omega)).1.trans (hB1 j hj).1, (hB2 j (by omega)).2.trans (hB1 j hj).2⟩) (by first | omega | (have h0_ : ((opS none).length : Int) = 0 := rfl; omega)) (fun j hj => ⟨up_ne (by omega), up_ne (by omega), rfl⟩) up_eq up_eq f2))
            | (exact z_zreturn rfl (Or.inr rfl) d_Gra_order_108 (hok (some a1) (some a2) _ _ l2 st2 vl2 _ _ _ (by rw [pOrd_24 hhd, pTwo_4 hq1 hmid hq2, pTm_yes h27 h97]; rw [hhd]) (by omega) ((hA1.keep hB2).app hA2) (fun j hj => ⟨(hB2 j (by omega)).1.trans (hB1 j hj).1, (hB2 j (by omega)).2.trans (hB1 j hj).2⟩) (by first | omega | (have h0_ : ((opS none).length : Int) = 0 := rfl; omega)) (fun j hj => ⟨up_ne (by omega), up_ne (by omega), up_ne (by omega)⟩) up_eq up_eq up_eq))
          · refine z_if_eq (t := 107) d_Gra_order_100 (by decide) (by first | omega | exact hw _ | exact hx _ _ | assumption) (fun _ => ?_) (fun h => absurd h (by decide))
            refine z_iconst d_Gra_order_107 ?_
            first
            | exact z_zreturn rfl (Or.inl rfl) d_Gra_order_108 (her t1 (by rw [pOrd_24 hhd, pTwo_1 hq1])  _ _ _ _ _ _ _ _ _)
            | exact z_zreturn rfl (Or.inl rfl) d_Gra_order_108 (her t1 (by rw [pOrd_24 hhd, pTwo_2 hq1 hmid])  _ _ _ _ _ _ _ _ _)
            | exact z_zreturn rfl (Or.inl rfl) d_Gra_order_108 (her t2 (by rw [pOrd_24 hhd, pTwo_3 hq1 hmid hq2])  _ _ _ _ _ _ _ _ _)
            | exact z_zreturn rfl (Or.inl rfl) d_Gra_order_108 (her _ (by rw [pOrd_24 hhd, pTwo_4 hq1 hmid hq2, pTm_er h27 h97])  _ _ _ _ _ _ _ _ _)
      · refine z_if_ne (t := 85) d_Gra_order_80 (by decide) (by first | omega | exact hw _ | exact hx _ _ | assumption) (fun h => absurd h (by decide)) (fun _ => ?_)
        refine z_iconst d_Gra_order_83 ?_
        first
        | exact z_zreturn rfl (Or.inl rfl) d_Gra_order_84 (her t1 (by rw [pOrd_24 hhd, pTwo_1 hq1])  _ _ _ _ _ _ _ _ _)
        | exact z_zreturn rfl (Or.inl rfl) d_Gra_order_84 (her t1 (by rw [pOrd_24 hhd, pTwo_2 hq1 hmid])  _ _ _ _ _ _ _ _ _)
        | exact z_zreturn rfl (Or.inl rfl) d_Gra_order_84 (her t2 (by rw [pOrd_24 hhd, pTwo_3 hq1 hmid hq2])  _ _ _ _ _ _ _ _ _)
        | exact z_zreturn rfl (Or.inl rfl) d_Gra_order_84 (her _ (by rw [pOrd_24 hhd, pTwo_4 hq1 hmid hq2, pTm_er h27 h97])  _ _ _ _ _ _ _ _ _)
    · refine z_if_eq (t := 83) d_Gra_order_65 (by decide) (by first | omega | exact hw _ | exact hx _ _ | assumption) (fun _ => ?_) (fun h => absurd h (by decide))
      refine z_iconst d_Gra_order_83 ?_
      first
      | exact z_zreturn rfl (Or.inl rfl) d_Gra_order_84 (her t1 (by rw [pOrd_24 hhd, pTwo_1 hq1])  _ _ _ _ _ _ _ _ _)
      | exact z_zreturn rfl (Or.inl rfl) d_Gra_order_84 (her t1 (by rw [pOrd_24 hhd, pTwo_2 hq1 hmid])  _ _ _ _ _ _ _ _ _)
      | exact z_zreturn rfl (Or.inl rfl) d_Gra_order_84 (her t2 (by rw [pOrd_24 hhd, pTwo_3 hq1 hmid hq2])  _ _ _ _ _ _ _ _ _)
      | exact z_zreturn rfl (Or.inl rfl) d_Gra_order_84 (her _ (by rw [pOrd_24 hhd, pTwo_4 hq1 hmid hq2, pTm_er h27 h97])  _ _ _ _ _ _ _ _ _)
  · refine z_if_ne (t := 22) d_Gra_order_17 (by decide) (by first | omega | exact hw _ | exact hx _ _ | assumption) (fun h => absurd h (by decide)) (fun _ => ?_)
    refine z_iconst d_Gra_order_20 ?_
    first
    | exact z_zreturn rfl (Or.inl rfl) d_Gra_order_21 (her t1 (by rw [pOrd_24 hhd, pTwo_1 hq1])  _ _ _ _ _ _ _ _ _)
    | exact z_zreturn rfl (Or.inl rfl) d_Gra_order_21 (her t1 (by rw [pOrd_24 hhd, pTwo_2 hq1 hmid])  _ _ _ _ _ _ _ _ _)
    | exact z_zreturn rfl (Or.inl rfl) d_Gra_order_21 (her t2 (by rw [pOrd_24 hhd, pTwo_3 hq1 hmid hq2])  _ _ _ _ _ _ _ _ _)
    | exact z_zreturn rfl (Or.inl rfl) d_Gra_order_21 (her _ (by rw [pOrd_24 hhd, pTwo_4 hq1 hmid hq2, pTm_er h27 h97])  _ _ _ _ _ _ _ _ _)
theorem t_Gra_order3 {g : Bool} {d : Nat} {Q : List xM → Option Value → Prop} {fl tc pz pn : Int} {kn ff sc ts mm st vl by_ tk ps pv pw : Int → Int} {C V : Int → Int} {N : Int} (hT : TkH C V N tk pv) (hpn : pn = N + 1) {io fw lw : Int} (hio : (io = 0 ∧ fw = 9 ∧ lw = 16) ∨ (io = 1 ∧ fw = 14 ∧ lw = 20)) {tj lv z c : Int} (c0_ : 0 ≤ c) (c1_ : c < 12) (k0 : 0 ≤ tj) (k1 : tj < N) (v0 : 0 ≤ lv) (v1 : lv ≤ 50) (z0_ : 0 ≤ z) (z1_ : z ≤ tj) (f0 : ff c = -1) (f1 : sc c = -1) (f2 : mm c = 1) (hok : ∀ (a b : Option SXC) (tm t l : Int) (st_ vl_ ff_ sc_ mm_ : Int → Int), pOrd C V (pS C V io fw lw 9) (pT C V io fw lw 9) tj lv = pTail C (pT C V io fw lw 9) (C tj) a b tm t l → (tj < t ∧ t ≤ N ∧ 0 ≤ l ∧ l ≤ 50) → At st_ vl_ z (opS a ++ opS b) → (∀ j, j < z → st_ j = st j ∧ vl_ j = vl j) → z + ((opS a).length : Int) + ((opS b).length : Int) ≤ t → (∀ j, j < c → ff_ j = ff j ∧ sc_ j = sc j ∧ mm_ j = mm j) → ff_ c = (if a.isSome then z else -1) → sc_ c = (if b.isSome then z + ((opS a).length : Int) else -1) → mm_ c = tm → Q (W_GR fl io t (tkF C N t) l 0 tc (z + ((opS a).length : Int) + ((opS b).length : Int)) pz pn kn ff_ sc_ ts mm_ st_ vl_ by_ tk ps pv pw) (some (.int (ii 1)))) (her : ∀ (t : Int), pOrd C V (pS C V io fw lw 9) (pT C V io fw lw 9) tj lv = .inr t → ∀ (nx_ tn_ pp_ ne_ sz_ : Int) (st_ vl_ ff_ sc_ : Int → Int), Q (W_GR (ps t) io nx_ tn_ pp_ ne_ tc sz_ pz pn kn ff_ sc_ ts mm st_ vl_ by_ tk ps pv pw) (some (.int (ii 0)))) (hhd : C tj = 26) : CT g m_Gra_order (d + 32) [.ref 0, .int (ii c), .int (ii 3)] (W_GR fl io (tj + 1) (tkF C N (tj + 1)) lv 0 tc z pz pn kn ff sc ts mm st vl by_ tk ps pv pw) 0 0 Q := by
  refine CT.of (by decide) (Nat.le_of_ble_eq_true rfl) ?_
  show SJ _ _ _ _ [some (.ref 0), some (.int (ii c)), some (.int (ii 3))] [] _ _ _ _
  have hN := hT.1
  refine j_iload_n d_Gra_order_0 rfl ?_
  refine z_iconst d_Gra_order_1 ?_
  refine z_icmp_eq (t := 22) d_Gra_order_2 (by decide) (by first | omega | exact hw _ | exact hx _ _ | assumption) (by first | omega | exact hw _ | exact hx _ _ | assumption) (fun _ => ?_) (fun h => absurd h (by decide))
  refine j_iload_n d_Gra_order_22 rfl ?_
  refine z_if_ne (t := 53) d_Gra_order_23 (by decide) (by first | omega | exact hw _ | exact hx _ _ | assumption) (fun _ => ?_) (fun h => absurd h (by decide))
  refine j_iload_n d_Gra_order_53 rfl ?_
  refine z_iconst d_Gra_order_54 ?_
  refine z_icmp_ne (t := 85) d_Gra_order_55 (by decide) (by first | omega | exact hw _ | exact hx _ _ | assumption) (by first | omega | exact hw _ | exact hx _ _ | assumption) (fun _ => ?_) (fun h => absurd h (by decide))
  have hRt := hT.R (show 0 ≤ (tj + 1) by omega)
  have h27_ := hT.w (show 0 ≤ (tj + 1) by omega) (show (tj + 1) ≤ N by omega) (w := 27) (v := 270) (by decide) (by decide) (by decide)
  refine j_aload_n d_Gra_order_85 rfl ?_
  refine gf_GR_0_5 f_Gra_29 d_Gra_order_86 ?_
  refine z_sipush d_Gra_order_89 (by decide) ?_
  refine z_icmp_ne (t := 103) d_Gra_order_92 (by decide) (by first | omega | exact hw _ | exact hx _ _ | assumption) (by first | omega | exact hw _ | exact hx _ _ | assumption) (fun h92 => ?_) (fun h92 => ?_)
  · first
    | (have hn27 : ¬ C (tj + 1) = 27 := fun q => absurd (h27_.mpr q) (by omega))
    | skip
    refine z_iconst d_Gra_order_103 ?_
    refine j_goto (t := 108) d_Gra_order_104 (by decide) ?_
    first
    | (rw [show z = z + ((opS none).length : Int) + ((opS none).length : Int) by show z = z + 0 + 0; omega]
       exact z_zreturn rfl (Or.inr rfl) d_Gra_order_108 (hok none none 1 (tj + 1) lv st vl _ _ _ (by rw [pOrd_26 hhd, pTm_no hn27]; rw [hhd]) (by omega) (At.nil) (fun j hj => ⟨rfl, rfl⟩) (by first | omega | (have h0_ : ((opS none).length : Int) = 0 := rfl; omega)) (fun j hj => ⟨rfl, rfl, rfl⟩) f0 f1 f2))
    | (rw [show z = z + ((opS none).length : Int) + ((opS none).length : Int) by show z = z + 0 + 0; omega]
       exact z_zreturn rfl (Or.inr rfl) d_Gra_order_108 (hok none none _ _ lv st vl _ _ _ (by rw [pOrd_26 hhd, pTm_yes h27 h97]; rw [hhd]) (by omega) (At.nil) (fun j hj => ⟨rfl, rfl⟩) (by first | omega | (have h0_ : ((opS none).length : Int) = 0 := rfl; omega)) (fun j hj => ⟨rfl, rfl, up_ne (by omega)⟩) f0 f1 up_eq))
  · have h27 : C (tj + 1) = 27 := h27_.mp (by omega)
    have hlt27 : (tj + 1) < N := hT.lt (by omega) (by omega)
    refine j_aload_n d_Gra_order_95 rfl ?_
    refine j_iload_n d_Gra_order_96 rfl ?_
    refine v_call1 d_Gra_order_97 c_Gra_109 rfl ⟨_, rfl, rfl⟩ (Nat.le_of_ble_eq_true rfl) (t_Gra_times hT hpn c0_ c1_ (by omega) hlt27 (fun h97 h97l => ?_) (fun h97 => ?_))
    · refine z_if_eq (t := 107) d_Gra_order_100 (by decide) (by first | omega | exact hw _ | exact hx _ _ | assumption) (fun h => absurd h (by decide)) (fun _ => ?_)
      first
      | (have hn27 : ¬ C (tj + 1) = 27 := fun q => absurd (h27_.mpr q) (by omega))
      | skip
      refine z_iconst d_Gra_order_103 ?_
      refine j_goto (t := 108) d_Gra_order_104 (by decide) ?_
      first
      | (rw [show z = z + ((opS none).length : Int) + ((opS none).length : Int) by show z = z + 0 + 0; omega]
         exact z_zreturn rfl (Or.inr rfl) d_Gra_order_108 (hok none none 1 (tj + 1) lv st vl _ _ _ (by rw [pOrd_26 hhd, pTm_no hn27]; rw [hhd]) (by omega) (At.nil) (fun j hj => ⟨rfl, rfl⟩) (by first | omega | (have h0_ : ((opS none).length : Int) = 0 := rfl; omega)) (fun j hj => ⟨rfl, rfl, rfl⟩) f0 f1 f2))
      | (rw [show z = z + ((opS none).length : Int) + ((opS none).length : Int) by show z = z + 0 + 0; omega]
         exact z_zreturn rfl (Or.inr rfl) d_Gra_order_108 (hok none none _ _ lv st vl _ _ _ (by rw [pOrd_26 hhd, pTm_yes h27 h97]; rw [hhd]) (by omega) (At.nil) (fun j hj => ⟨rfl, rfl⟩) (by first | omega | (have h0_ : ((opS none).length : Int) = 0 := rfl; omega)) (fun j hj => ⟨rfl, rfl, up_ne (by omega)⟩) f0 f1 up_eq))
    · refine z_if_eq (t := 107) d_Gra_order_100 (by decide) (by first | omega | exact hw _ | exact hx _ _ | assumption) (fun _ => ?_) (fun h => absurd h (by decide))
      refine z_iconst d_Gra_order_107 ?_
      first
      | exact z_zreturn rfl (Or.inl rfl) d_Gra_order_108 (her _ (by rw [pOrd_26 hhd, pTm_er h27 h97])  _ _ _ _ _ _ _ _ _)
theorem t_Gra_order {g : Bool} {d : Nat} {Q : List xM → Option Value → Prop} {fl tc pz pn : Int} {kn ff sc ts mm st vl by_ tk ps pv pw : Int → Int} {C V : Int → Int} {N : Int} (hT : TkH C V N tk pv) (hpn : pn = N + 1) {io fw lw : Int} (hio : (io = 0 ∧ fw = 9 ∧ lw = 16) ∨ (io = 1 ∧ fw = 14 ∧ lw = 20)) {tj lv z c : Int} (c0_ : 0 ≤ c) (c1_ : c < 12) (k0 : 0 ≤ tj) (k1 : tj < N) (v0 : 0 ≤ lv) (v1 : lv ≤ 50) (z0_ : 0 ≤ z) (z1_ : z ≤ tj) (f0 : ff c = -1) (f1 : sc c = -1) (f2 : mm c = 1) (hok : ∀ (a b : Option SXC) (tm t l : Int) (st_ vl_ ff_ sc_ mm_ : Int → Int), pOrd C V (pS C V io fw lw 9) (pT C V io fw lw 9) tj lv = pTail C (pT C V io fw lw 9) (C tj) a b tm t l → (tj < t ∧ t ≤ N ∧ 0 ≤ l ∧ l ≤ 50) → At st_ vl_ z (opS a ++ opS b) → (∀ j, j < z → st_ j = st j ∧ vl_ j = vl j) → z + ((opS a).length : Int) + ((opS b).length : Int) ≤ t → (∀ j, j < c → ff_ j = ff j ∧ sc_ j = sc j ∧ mm_ j = mm j) → ff_ c = (if a.isSome then z else -1) → sc_ c = (if b.isSome then z + ((opS a).length : Int) else -1) → mm_ c = tm → Q (W_GR fl io t (tkF C N t) l 0 tc (z + ((opS a).length : Int) + ((opS b).length : Int)) pz pn kn ff_ sc_ ts mm_ st_ vl_ by_ tk ps pv pw) (some (.int (ii 1)))) (her : ∀ (t : Int), pOrd C V (pS C V io fw lw 9) (pT C V io fw lw 9) tj lv = .inr t → ∀ (nx_ tn_ pp_ ne_ sz_ : Int) (st_ vl_ ff_ sc_ : Int → Int), Q (W_GR (ps t) io nx_ tn_ pp_ ne_ tc sz_ pz pn kn ff_ sc_ ts mm st_ vl_ by_ tk ps pv pw) (some (.int (ii 0)))) {kd_ : Int} (hkd : (kd_ = 0 ∧ C tj = 21) ∨ (kd_ = 1 ∧ C tj = 23) ∨ (kd_ = 2 ∧ C tj = 24) ∨ (kd_ = 3 ∧ C tj = 26)) : CT g m_Gra_order (d + 32) [.ref 0, .int (ii c), .int (ii kd_)] (W_GR fl io (tj + 1) (tkF C N (tj + 1)) lv 0 tc z pz pn kn ff sc ts mm st vl by_ tk ps pv pw) 0 0 Q := by
  rcases hkd with ⟨rfl, hh⟩ | ⟨rfl, hh⟩ | ⟨rfl, hh⟩ | ⟨rfl, hh⟩
  · exact t_Gra_order0 hT hpn hio c0_ c1_ k0 k1 v0 v1 z0_ z1_ f0 f1 f2 hok her hh
  · exact t_Gra_order1 hT hpn hio c0_ c1_ k0 k1 v0 v1 z0_ z1_ f0 f1 f2 hok her hh
  · exact t_Gra_order2 hT hpn hio c0_ c1_ k0 k1 v0 v1 z0_ z1_ f0 f1 f2 hok her hh
  · exact t_Gra_order3 hT hpn hio c0_ c1_ k0 k1 v0 v1 z0_ z1_ f0 f1 f2 hok her hh
theorem sj_clause {g : Bool} {d : Nat} {Q : List xM → Option Value → Prop} {fl tc pz pn : Int} {kn ff sc ts mm st vl by_ tk ps pv pw : Int → Int} {C V : Int → Int} {N : Int} (hT : TkH C V N tk pv) (hpn : pn = N + 1) {io fw lw : Int} (hio : (io = 0 ∧ fw = 9 ∧ lw = 16) ∨ (io = 1 ∧ fw = 14 ∧ lw = 20)) {hb tj lv z : Int} {a b : Option SXC} {tm t l kd_ : Int} {st2 vl2 kn2 ff2 sc2 ts2 mm2 : Int → Int} (c0_ : 0 ≤ tc) (c1_ : tc < 12) (k0 : 0 ≤ tj) (k1 : tj < N) (z0_ : 0 ≤ z) (hP : pOne C V io fw lw tj lv = pTail C (pT C V io fw lw 9) (C tj) a b tm t l) (hb4 : tj < t ∧ t ≤ N ∧ 0 ≤ l ∧ l ≤ 50) (hA : At st2 vl2 z (opS a ++ opS b)) (hB : ∀ j, j < z → st2 j = st j ∧ vl2 j = vl j) (hL : z + ((opS a).length : Int) + ((opS b).length : Int) ≤ t) (hold : ∀ j, j < tc → kn2 j = kn j ∧ ff2 j = ff j ∧ sc2 j = sc j ∧ ts2 j = ts j ∧ mm2 j = mm j) (hk1 : kn2 tc = tkm (C tj) - hb) (hf1 : ff2 tc = (if a.isSome then z else -1)) (hs1 : sc2 tc = (if b.isSome then z + ((opS a).length : Int) else -1)) (hts : ts2 tc = -1) (hm1 : mm2 tc = tm) (hok : ∀ (q : CXC) (t l : Int) (kn_ ff_ sc_ ts_ mm_ st_ vl_ : Int → Int), pOne C V io fw lw tj lv = .inl (q, t, l) → ClA hb kn_ ff_ sc_ ts_ mm_ st_ vl_ tc z q → (∀ j, j < tc → kn_ j = kn j ∧ ff_ j = ff j ∧ sc_ j = sc j ∧ ts_ j = ts j ∧ mm_ j = mm j) → (∀ j, j < z → st_ j = st j ∧ vl_ j = vl j) → z + ((lyC z q).length : Int) ≤ t → Q (W_GR fl io t (tkF C N t) l 0 (tc + 1) (z + ((lyC z q).length : Int)) pz pn kn_ ff_ sc_ ts_ mm_ st_ vl_ by_ tk ps pv pw) (some (.int (ii 1)))) (her : ∀ (t : Int), pOne C V io fw lw tj lv = .inr t → ∀ (nx_ tn_ pp_ ne_ tc_ sz_ : Int) (kn_ ff_ sc_ ts_ mm_ st_ vl_ : Int → Int), Q (W_GR (ps t) io nx_ tn_ pp_ ne_ tc_ sz_ pz pn kn_ ff_ sc_ ts_ mm_ st_ vl_ by_ tk ps pv pw) (some (.int (ii 0)))) : SJ g m_Gra_clause (d + 39) 90 [some (.ref 0), some (.int (ii kd_)), some (.int (ii tc))] [] (W_GR fl io t (tkF C N t) l 0 (tc + 1) (z + ((opS a).length : Int) + ((opS b).length : Int)) pz pn kn2 ff2 sc2 ts2 mm2 st2 vl2 by_ tk ps pv pw) 0 0 Q := by
  have hN := hT.1
  have hR := hT.R (show 0 ≤ t by omega)
  have h5_ := hT.w (show 0 ≤ t by omega) (show t ≤ N by omega) (w := 5) (v := 264) (by decide) (by decide) (by decide)
  refine j_aload_n d_Gra_clause_90 rfl ?_
  refine gf_GR_0_5 f_Gra_29 d_Gra_clause_91 ?_
  refine z_sipush d_Gra_clause_94 (by decide) ?_
  refine z_icmp_eq (t := 102) d_Gra_clause_97 (by decide) (by first | omega | exact hw _ | exact hx _ _ | assumption) (by first | omega | exact hw _ | exact hx _ _ | assumption) (fun h97 => ?_) (fun h97 => ?_)
  · have h5 : C t = 5 := h5_.mp (by omega)
    have hlt : t < N := hT.lt (by omega) (by omega)
    refine j_aload_n d_Gra_clause_102 rfl ?_
    refine v_call0 d_Gra_clause_103 c_Gra_74 rfl ⟨_, rfl, rfl⟩ (Nat.le_of_ble_eq_true rfl) (t_Gra_advance hT hpn (by omega) hlt ?_)
    refine j_aload_n d_Gra_clause_106 rfl ?_
    refine gf_GR_0_0 f_Gra_12 d_Gra_clause_107 ?_
    refine gf_GR_1_3 f_Gra_95 d_Gra_clause_110 ?_
    refine j_iload_n d_Gra_clause_113 rfl ?_
    refine j_aload_n d_Gra_clause_114 rfl ?_
    refine gf_GR_0_0 f_Gra_12 d_Gra_clause_115 ?_
    refine gf_GR_1_8 f_Gra_98 d_Gra_clause_118 ?_
    refine as_GR_5 d_Gra_clause_121 (by omega) (by omega) ?_
    refine j_aload_n d_Gra_clause_122 rfl ?_
    refine v_call0 d_Gra_clause_123 c_Gra_99 rfl ⟨_, rfl, rfl⟩ (Nat.le_of_ble_eq_true rfl) (test9 hT hpn hio (t + 1) l (z + ((opS a).length : Int) + ((opS b).length : Int)) st2 vl2 _ (by omega) (by omega) (by omega) (by omega) (by omega) (by omega) (fun x t3 l3 st3 vl3 hq3 hA3 hB3 hC3 => ?_) (fun t3 hq3 nx3 tn3 pp3 ne3 sz3 st3 vl3 => ?_))
    · refine z_if_ne (t := 131) d_Gra_clause_126 (by decide) (by first | omega | exact hw _ | exact hx _ _ | assumption) (fun _ => ?_) (fun h => absurd h (by decide))
      have hg3 := (pT_R hT.2.1 (by omega) 9 (t + 1) l (by omega) (by omega) (by omega) (by omega)).1 _ _ _ hq3
      have hol3 := opT_len x (z + ((opS a).length : Int) + ((opS b).length : Int))
      refine j_aload_n d_Gra_clause_131 rfl ?_
      refine gf_GR_0_0 f_Gra_12 d_Gra_clause_132 ?_
      refine z_bipush d_Gra_clause_135 (by decide) ?_
      refine z_iconst d_Gra_clause_137 ?_
      refine v_call2 d_Gra_clause_138 c_Gra_102 rfl ⟨_, rfl, rfl⟩ (Nat.le_of_ble_eq_true rfl) (t_Tex_addStep (by omega) (by omega) ?_)
      refine j_pop d_Gra_clause_141 rfl ?_
      refine z_iconst d_Gra_clause_142 ?_
      rw [show (z + ((opS a).length : Int) + ((opS b).length : Int) + ((x.2 (z + ((opS a).length : Int) + ((opS b).length : Int))).length : Int)) + 1 = z + ((lyC z (C tj, a, b, tm, some x)).length : Int) by rw [lyC_len]; dsimp only; rw [hol3]; omega]
      have hA5 : At st3 vl3 z (opS a ++ opS b) := hA.keep (fun j hj => by rw [len2] at hj; exact hB3 j (by omega))
      have hA6 : At (up st3 (z + ((opS a).length : Int) + ((opS b).length : Int) + ((x.2 (z + ((opS a).length : Int) + ((opS b).length : Int))).length : Int)) 46) (up vl3 (z + ((opS a).length : Int) + ((opS b).length : Int) + ((x.2 (z + ((opS a).length : Int) + ((opS b).length : Int))).length : Int)) 0) z (lyC z (C tj, a, b, tm, some x)) := At.app (hA5.keep (fun j hj => by rw [len2] at hj; exact ⟨up_ne (by omega), up_ne (by omega)⟩)) (by
        show At _ _ (z + ((opS a ++ opS b).length : Int)) (x.2 (z + ((opS a).length : Int) + ((opS b).length : Int)) ++ [(46, 0)])
        rw [len2, show z + (((opS a).length : Int) + ((opS b).length : Int)) = z + ((opS a).length : Int) + ((opS b).length : Int) by omega]
        exact hA3.push rfl)
      exact z_zreturn rfl (Or.inr rfl) d_Gra_clause_143 (hok (C tj, a, b, tm, some x) t3 l3 _ _ _ _ _ _ _ (by rw [hP, pTail_y h5 hq3]) ⟨hk1, hf1, hs1, up_eq, hm1, hA6⟩ (fun j hj => ⟨(hold j hj).1, (hold j hj).2.1, (hold j hj).2.2.1, (up_ne (by omega)).trans (hold j hj).2.2.2.1, (hold j hj).2.2.2.2⟩) (fun j hj => ⟨(up_ne (by omega)).trans ((hB3 j (by omega)).1.trans (hB j hj).1), (up_ne (by omega)).trans ((hB3 j (by omega)).2.trans (hB j hj).2)⟩) (by rw [lyC_len]; dsimp only; rw [hol3]; omega))
    · refine z_if_ne (t := 131) d_Gra_clause_126 (by decide) (by first | omega | exact hw _ | exact hx _ _ | assumption) (fun h => absurd h (by decide)) (fun _ => ?_)
      refine z_iconst d_Gra_clause_129 ?_
      exact z_zreturn rfl (Or.inl rfl) d_Gra_clause_130 (her t3 (by rw [hP, pTail_e h5 hq3]) _ _ _ _ _ _ _ _ _ _ _ _ _)
  · have hn5 : ¬ C t = 5 := fun q => absurd (h5_.mpr q) (by omega)
    refine z_iconst d_Gra_clause_100 ?_
    rw [show z + ((opS a).length : Int) + ((opS b).length : Int) = z + ((lyC z (C tj, a, b, tm, none)).length : Int) by rw [ly_no, len2]; omega]
    exact z_zreturn rfl (Or.inr rfl) d_Gra_clause_101 (hok (C tj, a, b, tm, none) t l _ _ _ _ _ _ _ (by rw [hP, pTail_n hn5]) ⟨hk1, hf1, hs1, hts, hm1, by rw [ly_no]; exact hA⟩ hold hB (by rw [ly_no, len2]; omega))
theorem t_Gra_clause0 {g : Bool} {d : Nat} {Q : List xM → Option Value → Prop} {fl tc pz pn : Int} {kn ff sc ts mm st vl by_ tk ps pv pw : Int → Int} {C V : Int → Int} {N : Int} (hT : TkH C V N tk pv) (hpn : pn = N + 1) {tj lv z : Int} (c0_ : 0 ≤ tc) (c1_ : tc < 12) (k0 : 0 ≤ tj) (k1_ : tj ≤ N) (v0 : 0 ≤ lv) (v1 : lv ≤ 50) (z0_ : 0 ≤ z) (z1_ : z ≤ tj) (hok : ∀ (q : CXC) (t l : Int) (kn_ ff_ sc_ ts_ mm_ st_ vl_ : Int → Int), pOne C V 0 9 16 tj lv = .inl (q, t, l) → ClA 256 kn_ ff_ sc_ ts_ mm_ st_ vl_ tc z q → (∀ j, j < tc → kn_ j = kn j ∧ ff_ j = ff j ∧ sc_ j = sc j ∧ ts_ j = ts j ∧ mm_ j = mm j) → (∀ j, j < z → st_ j = st j ∧ vl_ j = vl j) → z + ((lyC z q).length : Int) ≤ t → Q (W_GR fl 0 t (tkF C N t) l 0 (tc + 1) (z + ((lyC z q).length : Int)) pz pn kn_ ff_ sc_ ts_ mm_ st_ vl_ by_ tk ps pv pw) (some (.int (ii 1)))) (her : ∀ (t : Int), pOne C V 0 9 16 tj lv = .inr t → ∀ (nx_ tn_ pp_ ne_ tc_ sz_ : Int) (kn_ ff_ sc_ ts_ mm_ st_ vl_ : Int → Int), Q (W_GR (ps t) 0 nx_ tn_ pp_ ne_ tc_ sz_ pz pn kn_ ff_ sc_ ts_ mm_ st_ vl_ by_ tk ps pv pw) (some (.int (ii 0)))) : CT g m_Gra_clause (d + 39) [.ref 0] (W_GR fl 0 tj (tkF C N tj) lv 0 tc z pz pn kn ff sc ts mm st vl by_ tk ps pv pw) 0 0 Q := by
  refine CT.of (by decide) (Nat.le_of_ble_eq_true rfl) ?_
  show SJ _ _ _ _ [some (.ref 0), none, none] [] _ _ _ _
  have hN := hT.1
  have hR := hT.R k0
  have hio : ((0 : Int) = 0 ∧ (9 : Int) = 9 ∧ (16 : Int) = 16) ∨ ((0 : Int) = 1 ∧ (9 : Int) = 14 ∧ (16 : Int) = 20) := by decide
  refine j_aload_n d_Gra_clause_0 rfl ?_
  refine gf_GR_0_5 f_Gra_29 d_Gra_clause_1 ?_
  refine j_aload_n d_Gra_clause_4 rfl ?_
  refine gf_GR_0_3 f_Gra_22 d_Gra_clause_5 ?_
  refine z_if_eq (t := 17) d_Gra_clause_8 (by decide) (by first | omega | exact hw _ | exact hx _ _ | assumption) (fun _ => ?_) (fun h => absurd h (by decide))
  refine z_sipush d_Gra_clause_17 (by decide) ?_
  refine z_isub d_Gra_clause_20 ?_
  refine j_istore_n d_Gra_clause_21 (by decide) ?_
  show SJ _ _ _ _ [_, _, _] _ _ _ _ _
  refine j_iload_n d_Gra_clause_22 rfl ?_
  refine z_if_lt (t := 31) d_Gra_clause_23 (by decide) (by first | omega | exact hw _ | exact hx _ _ | assumption) (fun h23 => ?_) (fun h23 => ?_)
  · have hnk : ¬ (C tj = 1 ∨ C tj = 2 ∨ C tj = 3 ∨ C tj = 4) := fun q => by
      rcases q with q | q | q | q
      · exact absurd ((hT.w k0 k1_ (w := 1) (v := 256) (by decide) (by decide) (by decide)).mpr q) (by omega)
      · exact absurd ((hT.w k0 k1_ (w := 2) (v := 257) (by decide) (by decide) (by decide)).mpr q) (by omega)
      · exact absurd ((hT.w k0 k1_ (w := 3) (v := 258) (by decide) (by decide) (by decide)).mpr q) (by omega)
      · exact absurd ((hT.w k0 k1_ (w := 4) (v := 259) (by decide) (by decide) (by decide)).mpr q) (by omega)
    refine j_aload_n d_Gra_clause_31 rfl ?_
    refine v_call0 d_Gra_clause_32 c_Gra_65 rfl ⟨_, rfl, rfl⟩ (Nat.le_of_ble_eq_true rfl) (t_Gra_fail hT hpn k0 k1_ ?_)
    exact z_zreturn rfl (Or.inl rfl) d_Gra_clause_35 (her tj (by unfold pOne; rw [if_neg (by decide)]; exact pLaw_n hnk) _ _ _ _ _ _ _ _ _ _ _ _ _)
  · refine j_iload_n d_Gra_clause_26 rfl ?_
    refine z_iconst d_Gra_clause_27 ?_
    refine z_icmp_le (t := 36) d_Gra_clause_28 (by decide) (by first | omega | exact hw _ | exact hx _ _ | assumption) (by first | omega | exact hw _ | exact hx _ _ | assumption) (fun h28 => ?_) (fun h28 => ?_)
    · have hlt : tj < N := by
        rcases Int.lt_or_eq_of_le k1_ with q | q
        · exact q
        · have := (hT.end_ k0 k1_).mpr q
          omega
      have hkd : (tkF C N tj - 256 ≠ 3 ∧ (C tj = 1 ∨ C tj = 2 ∨ C tj = 3)) ∨ (tkF C N tj - 256 = 3 ∧ C tj = 4) := by
        rcases (show tkF C N tj = 256 ∨ tkF C N tj = 257 ∨ tkF C N tj = 258 ∨ tkF C N tj = 259 by omega) with q | q | q | q
        · exact Or.inl ⟨by omega, Or.inl ((hT.w k0 (by omega) (by decide) (by decide) (by decide)).mp q)⟩
        · exact Or.inl ⟨by omega, Or.inr (Or.inl ((hT.w k0 (by omega) (by decide) (by decide) (by decide)).mp q))⟩
        · exact Or.inl ⟨by omega, Or.inr (Or.inr ((hT.w k0 (by omega) (by decide) (by decide) (by decide)).mp q))⟩
        · exact Or.inr ⟨by omega, (hT.w k0 (by omega) (by decide) (by decide) (by decide)).mp q⟩
      refine j_aload_n d_Gra_clause_36 rfl ?_
      refine v_call0 d_Gra_clause_37 c_Gra_74 rfl ⟨_, rfl, rfl⟩ (Nat.le_of_ble_eq_true rfl) (t_Gra_advance hT hpn k0 hlt ?_)
      refine j_aload_n d_Gra_clause_40 rfl ?_
      refine gf_GR_0_0 f_Gra_12 d_Gra_clause_41 ?_
      refine j_iload_n d_Gra_clause_44 rfl ?_
      refine v_call1 d_Gra_clause_45 c_Gra_80 rfl ⟨_, rfl, rfl⟩ (Nat.le_of_ble_eq_true rfl) (t_Tex_addClause c0_ c1_ ?_)
      refine j_istore_n d_Gra_clause_48 (by decide) ?_
      show SJ _ _ _ _ [_, _, _] _ _ _ _ _
      refine j_aload_n d_Gra_clause_49 rfl ?_
      refine gf_GR_0_3 f_Gra_22 d_Gra_clause_50 ?_
      refine z_if_eq (t := 68) d_Gra_clause_53 (by decide) (by first | omega | exact hw _ | exact hx _ _ | assumption) (fun _ => ?_) (fun h => absurd h (by decide))
      refine j_iload_n d_Gra_clause_68 rfl ?_
      refine z_iconst d_Gra_clause_69 ?_
      refine z_icmp_eq (t := 90) d_Gra_clause_70 (by decide) (by first | omega | exact hw _ | exact hx _ _ | assumption) (by first | omega | exact hw _ | exact hx _ _ | assumption) (fun h70 => ?_) (fun h70 => ?_)
      · have hkn : up kn tc (tkF C N tj - 256) tc = tkm (C tj) - 256 := by rw [up_eq]; unfold tkF; rw [if_pos hlt]
        have hc4 : C tj = 4 := by omega
        rw [show z = z + ((opS none).length : Int) + ((opS none).length : Int) by show z = z + 0 + 0; omega]
        refine sj_clause (hb := 256) (st := st) (vl := vl) (kn := kn) (ff := ff) (sc := sc) (ts := ts) (mm := mm) (a := none) (b := none) (tm := 1) hT hpn hio c0_ c1_ k0 hlt z0_ (by unfold pOne; rw [if_neg (by decide)]; rw [pLaw_4 hc4, hc4]) (by omega) At.nil (fun j hj => ⟨rfl, rfl⟩) (by show z + 0 + 0 ≤ _; omega) (fun j hj => ⟨up_ne (by omega), up_ne (by omega), up_ne (by omega), up_ne (by omega), up_ne (by omega)⟩) hkn up_eq up_eq up_eq up_eq hok her
      · have hc13 : C tj = 1 ∨ C tj = 2 ∨ C tj = 3 := by omega
        refine j_aload_n d_Gra_clause_73 rfl ?_
        refine j_aload_n d_Gra_clause_74 rfl ?_
        refine gf_GR_0_0 f_Gra_12 d_Gra_clause_75 ?_
        refine gf_GR_1_1 f_Gra_88 d_Gra_clause_78 ?_
        refine j_iload_n d_Gra_clause_81 rfl ?_
        refine v_call2 d_Gra_clause_82 c_Gra_91 rfl ⟨_, rfl, rfl⟩ (Nat.le_of_ble_eq_true rfl) (t_Gra_startedSum3 hT hpn hio c0_ c1_ (by omega) (by omega) v0 v1 z0_ (by omega) (fun a t l st2 vl2 hq hA hB hC => ?_) (fun t hq nx2 tn2 pp2 ne2 sz2 st2 vl2 => ?_))
        · refine z_if_ne (t := 90) d_Gra_clause_85 (by decide) (by first | omega | exact hw _ | exact hx _ _ | assumption) (fun _ => ?_) (fun h => absurd h (by decide))
          have hkn : up kn tc (tkF C N tj - 256) tc = tkm (C tj) - 256 := by rw [up_eq]; unfold tkF; rw [if_pos hlt]
          have hg := (pS_R hT.2.1 (by decide) 9 (tj + 1) lv (by omega) (by omega) v0 v1).1 _ _ _ hq
          have hol := opS_len a
          rw [show z + ((opS (some a)).length : Int) = z + ((opS (some a)).length : Int) + ((opS none).length : Int) from (Int.add_zero _).symm]
          refine sj_clause (hb := 256) (st := st) (vl := vl) (kn := kn) (ff := ff) (sc := sc) (ts := ts) (mm := mm) (a := some a) (b := none) (tm := 1) hT hpn hio c0_ c1_ k0 hlt z0_ (by unfold pOne; rw [if_neg (by decide)]; rw [pLaw_1 hc13 hq]) (by omega) (by rw [show opS (some a) ++ opS none = opS (some a) from List.append_nil _]; exact hA) hB (by show _ + ((opS none).length : Int) ≤ _; rw [show ((opS none).length : Int) = 0 from rfl]; omega) (fun j hj => ⟨up_ne (by omega), (up_ne (by omega)).trans (up_ne (by omega)), up_ne (by omega), up_ne (by omega), up_ne (by omega)⟩) hkn up_eq up_eq up_eq up_eq hok her
        · refine z_if_ne (t := 90) d_Gra_clause_85 (by decide) (by first | omega | exact hw _ | exact hx _ _ | assumption) (fun h => absurd h (by decide)) (fun _ => ?_)
          refine z_iconst d_Gra_clause_88 ?_
          exact z_zreturn rfl (Or.inl rfl) d_Gra_clause_89 (her t (by unfold pOne; rw [if_neg (by decide)]; exact pLaw_e hc13 hq) _ _ _ _ _ _ _ _ _ _ _ _ _)
    · have hnk : ¬ (C tj = 1 ∨ C tj = 2 ∨ C tj = 3 ∨ C tj = 4) := fun q => by
        rcases q with q | q | q | q
        · exact absurd ((hT.w k0 k1_ (w := 1) (v := 256) (by decide) (by decide) (by decide)).mpr q) (by omega)
        · exact absurd ((hT.w k0 k1_ (w := 2) (v := 257) (by decide) (by decide) (by decide)).mpr q) (by omega)
        · exact absurd ((hT.w k0 k1_ (w := 3) (v := 258) (by decide) (by decide) (by decide)).mpr q) (by omega)
        · exact absurd ((hT.w k0 k1_ (w := 4) (v := 259) (by decide) (by decide) (by decide)).mpr q) (by omega)
      refine j_aload_n d_Gra_clause_31 rfl ?_
      refine v_call0 d_Gra_clause_32 c_Gra_65 rfl ⟨_, rfl, rfl⟩ (Nat.le_of_ble_eq_true rfl) (t_Gra_fail hT hpn k0 k1_ ?_)
      exact z_zreturn rfl (Or.inl rfl) d_Gra_clause_35 (her tj (by unfold pOne; rw [if_neg (by decide)]; exact pLaw_n hnk) _ _ _ _ _ _ _ _ _ _ _ _ _)
theorem t_Gra_clause1 {g : Bool} {d : Nat} {Q : List xM → Option Value → Prop} {fl tc pz pn : Int} {kn ff sc ts mm st vl by_ tk ps pv pw : Int → Int} {C V : Int → Int} {N : Int} (hT : TkH C V N tk pv) (hpn : pn = N + 1) {tj lv z : Int} (c0_ : 0 ≤ tc) (c1_ : tc < 12) (k0 : 0 ≤ tj) (k1_ : tj ≤ N) (v0 : 0 ≤ lv) (v1 : lv ≤ 50) (z0_ : 0 ≤ z) (z1_ : z ≤ tj) (hok : ∀ (q : CXC) (t l : Int) (kn_ ff_ sc_ ts_ mm_ st_ vl_ : Int → Int), pOne C V 1 14 20 tj lv = .inl (q, t, l) → ClA 260 kn_ ff_ sc_ ts_ mm_ st_ vl_ tc z q → (∀ j, j < tc → kn_ j = kn j ∧ ff_ j = ff j ∧ sc_ j = sc j ∧ ts_ j = ts j ∧ mm_ j = mm j) → (∀ j, j < z → st_ j = st j ∧ vl_ j = vl j) → z + ((lyC z q).length : Int) ≤ t → Q (W_GR fl 1 t (tkF C N t) l 0 (tc + 1) (z + ((lyC z q).length : Int)) pz pn kn_ ff_ sc_ ts_ mm_ st_ vl_ by_ tk ps pv pw) (some (.int (ii 1)))) (her : ∀ (t : Int), pOne C V 1 14 20 tj lv = .inr t → ∀ (nx_ tn_ pp_ ne_ tc_ sz_ : Int) (kn_ ff_ sc_ ts_ mm_ st_ vl_ : Int → Int), Q (W_GR (ps t) 1 nx_ tn_ pp_ ne_ tc_ sz_ pz pn kn_ ff_ sc_ ts_ mm_ st_ vl_ by_ tk ps pv pw) (some (.int (ii 0)))) : CT g m_Gra_clause (d + 39) [.ref 0] (W_GR fl 1 tj (tkF C N tj) lv 0 tc z pz pn kn ff sc ts mm st vl by_ tk ps pv pw) 0 0 Q := by
  refine CT.of (by decide) (Nat.le_of_ble_eq_true rfl) ?_
  show SJ _ _ _ _ [some (.ref 0), none, none] [] _ _ _ _
  have hN := hT.1
  have hR := hT.R k0
  have hio : ((1 : Int) = 0 ∧ (14 : Int) = 9 ∧ (20 : Int) = 16) ∨ ((1 : Int) = 1 ∧ (14 : Int) = 14 ∧ (20 : Int) = 20) := by decide
  refine j_aload_n d_Gra_clause_0 rfl ?_
  refine gf_GR_0_5 f_Gra_29 d_Gra_clause_1 ?_
  refine j_aload_n d_Gra_clause_4 rfl ?_
  refine gf_GR_0_3 f_Gra_22 d_Gra_clause_5 ?_
  refine z_if_eq (t := 17) d_Gra_clause_8 (by decide) (by first | omega | exact hw _ | exact hx _ _ | assumption) (fun h => absurd h (by decide)) (fun _ => ?_)
  refine z_sipush d_Gra_clause_11 (by decide) ?_
  refine j_goto (t := 20) d_Gra_clause_14 (by decide) ?_
  refine z_isub d_Gra_clause_20 ?_
  refine j_istore_n d_Gra_clause_21 (by decide) ?_
  show SJ _ _ _ _ [_, _, _] _ _ _ _ _
  refine j_iload_n d_Gra_clause_22 rfl ?_
  refine z_if_lt (t := 31) d_Gra_clause_23 (by decide) (by first | omega | exact hw _ | exact hx _ _ | assumption) (fun h23 => ?_) (fun h23 => ?_)
  · have hnk : ¬ (C tj = 21 ∨ C tj = 23 ∨ C tj = 24 ∨ C tj = 26) := fun q => by
      rcases q with q | q | q | q
      · exact absurd ((hT.w k0 k1_ (w := 21) (v := 260) (by decide) (by decide) (by decide)).mpr q) (by omega)
      · exact absurd ((hT.w k0 k1_ (w := 23) (v := 261) (by decide) (by decide) (by decide)).mpr q) (by omega)
      · exact absurd ((hT.w k0 k1_ (w := 24) (v := 262) (by decide) (by decide) (by decide)).mpr q) (by omega)
      · exact absurd ((hT.w k0 k1_ (w := 26) (v := 263) (by decide) (by decide) (by decide)).mpr q) (by omega)
    refine j_aload_n d_Gra_clause_31 rfl ?_
    refine v_call0 d_Gra_clause_32 c_Gra_65 rfl ⟨_, rfl, rfl⟩ (Nat.le_of_ble_eq_true rfl) (t_Gra_fail hT hpn k0 k1_ ?_)
    exact z_zreturn rfl (Or.inl rfl) d_Gra_clause_35 (her tj (by unfold pOne; rw [if_pos rfl]; exact pOrd_n hnk) _ _ _ _ _ _ _ _ _ _ _ _ _)
  · refine j_iload_n d_Gra_clause_26 rfl ?_
    refine z_iconst d_Gra_clause_27 ?_
    refine z_icmp_le (t := 36) d_Gra_clause_28 (by decide) (by first | omega | exact hw _ | exact hx _ _ | assumption) (by first | omega | exact hw _ | exact hx _ _ | assumption) (fun h28 => ?_) (fun h28 => ?_)
    · have hlt : tj < N := by
        rcases Int.lt_or_eq_of_le k1_ with q | q
        · exact q
        · have := (hT.end_ k0 k1_).mpr q
          omega
      have hkd : (tkF C N tj - 260 = 0 ∧ C tj = 21) ∨ (tkF C N tj - 260 = 1 ∧ C tj = 23) ∨ (tkF C N tj - 260 = 2 ∧ C tj = 24) ∨ (tkF C N tj - 260 = 3 ∧ C tj = 26) := by
        rcases (show tkF C N tj = 260 ∨ tkF C N tj = 261 ∨ tkF C N tj = 262 ∨ tkF C N tj = 263 by omega) with q | q | q | q
        · exact Or.inl ⟨by omega, (hT.w k0 (by omega) (by decide) (by decide) (by decide)).mp q⟩
        · exact Or.inr (Or.inl ⟨by omega, (hT.w k0 (by omega) (by decide) (by decide) (by decide)).mp q⟩)
        · exact Or.inr (Or.inr (Or.inl ⟨by omega, (hT.w k0 (by omega) (by decide) (by decide) (by decide)).mp q⟩))
        · exact Or.inr (Or.inr (Or.inr ⟨by omega, (hT.w k0 (by omega) (by decide) (by decide) (by decide)).mp q⟩))
      refine j_aload_n d_Gra_clause_36 rfl ?_
      refine v_call0 d_Gra_clause_37 c_Gra_74 rfl ⟨_, rfl, rfl⟩ (Nat.le_of_ble_eq_true rfl) (t_Gra_advance hT hpn k0 hlt ?_)
      refine j_aload_n d_Gra_clause_40 rfl ?_
      refine gf_GR_0_0 f_Gra_12 d_Gra_clause_41 ?_
      refine j_iload_n d_Gra_clause_44 rfl ?_
      refine v_call1 d_Gra_clause_45 c_Gra_80 rfl ⟨_, rfl, rfl⟩ (Nat.le_of_ble_eq_true rfl) (t_Tex_addClause c0_ c1_ ?_)
      refine j_istore_n d_Gra_clause_48 (by decide) ?_
      show SJ _ _ _ _ [_, _, _] _ _ _ _ _
      refine j_aload_n d_Gra_clause_49 rfl ?_
      refine gf_GR_0_3 f_Gra_22 d_Gra_clause_50 ?_
      refine z_if_eq (t := 68) d_Gra_clause_53 (by decide) (by first | omega | exact hw _ | exact hx _ _ | assumption) (fun h => absurd h (by decide)) (fun _ => ?_)
      refine j_aload_n d_Gra_clause_56 rfl ?_
      refine j_iload_n d_Gra_clause_57 rfl ?_
      refine j_iload_n d_Gra_clause_58 rfl ?_
      refine v_call2 d_Gra_clause_59 c_Gra_84 rfl ⟨_, rfl, rfl⟩ (Nat.le_of_ble_eq_true rfl) (t_Gra_order hT hpn hio c0_ c1_ k0 hlt v0 v1 z0_ z1_ up_eq up_eq up_eq (fun a b tm t l st2 vl2 ff2 sc2 mm2 hq h4 hA hB hL hU hf1 hs1 hm1 => ?_) (fun t hq nx2 tn2 pp2 ne2 sz2 st2 vl2 ff2 sc2 => ?_) hkd)
      · refine z_if_ne (t := 90) d_Gra_clause_62 (by decide) (by first | omega | exact hw _ | exact hx _ _ | assumption) (fun _ => ?_) (fun h => absurd h (by decide))
        have hkn : up kn tc (tkF C N tj - 260) tc = tkm (C tj) - 260 := by rw [up_eq]; unfold tkF; rw [if_pos hlt]
        refine sj_clause (hb := 260) (st := st) (vl := vl) (kn := kn) (ff := ff) (sc := sc) (ts := ts) (mm := mm) (a := a) (b := b) (tm := tm) hT hpn hio c0_ c1_ k0 hlt z0_ (by unfold pOne; rw [if_pos rfl]; exact hq) h4 hA hB hL (fun j hj => ⟨up_ne (by omega), (hU j hj).1.trans (up_ne (by omega)), (hU j hj).2.1.trans (up_ne (by omega)), up_ne (by omega), (hU j hj).2.2.trans (up_ne (by omega))⟩) hkn hf1 hs1 up_eq hm1 hok her
      · refine z_if_ne (t := 90) d_Gra_clause_62 (by decide) (by first | omega | exact hw _ | exact hx _ _ | assumption) (fun h => absurd h (by decide)) (fun _ => ?_)
        refine j_goto (t := 88) d_Gra_clause_65 (by decide) ?_
        refine z_iconst d_Gra_clause_88 ?_
        exact z_zreturn rfl (Or.inl rfl) d_Gra_clause_89 (her t (by unfold pOne; rw [if_pos rfl]; exact hq) _ _ _ _ _ _ _ _ _ _ _ _ _)
    · have hnk : ¬ (C tj = 21 ∨ C tj = 23 ∨ C tj = 24 ∨ C tj = 26) := fun q => by
        rcases q with q | q | q | q
        · exact absurd ((hT.w k0 k1_ (w := 21) (v := 260) (by decide) (by decide) (by decide)).mpr q) (by omega)
        · exact absurd ((hT.w k0 k1_ (w := 23) (v := 261) (by decide) (by decide) (by decide)).mpr q) (by omega)
        · exact absurd ((hT.w k0 k1_ (w := 24) (v := 262) (by decide) (by decide) (by decide)).mpr q) (by omega)
        · exact absurd ((hT.w k0 k1_ (w := 26) (v := 263) (by decide) (by decide) (by decide)).mpr q) (by omega)
      refine j_aload_n d_Gra_clause_31 rfl ?_
      refine v_call0 d_Gra_clause_32 c_Gra_65 rfl ⟨_, rfl, rfl⟩ (Nat.le_of_ble_eq_true rfl) (t_Gra_fail hT hpn k0 k1_ ?_)
      exact z_zreturn rfl (Or.inl rfl) d_Gra_clause_35 (her tj (by unfold pOne; rw [if_pos rfl]; exact pOrd_n hnk) _ _ _ _ _ _ _ _ _ _ _ _ _)
