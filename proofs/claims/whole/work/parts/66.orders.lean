theorem tmO_s {q : CXC} {n : Nat} {S T : OS} (h : onO q S = some T) : tmO q (n + 1) S = tmO q n T := by
  rw [tmO, h]
theorem tmO_n {q : CXC} {n : Nat} {S : OS} (h : onO q S = none) : tmO q (n + 1) S = none := by
  rw [tmO, h]
theorem obK_o {hd v1 v2 : Int} {S T : OS} (hk : KOK S.1) (h : obK hd v1 v2 S = some T) : ∀ j, j < 0 → T.1 j = S.1 j := by
  intro j hj
  have hKR := hk.1.1
  unfold obK at h
  split at h
  · split at h
    · cases h
    · next c =>
      cases h
      have hp : 0 ≤ sm v1 ∧ sm v1 < S.1 0 := by
        unfold cuR at c
        by_cases q : 0 ≤ sm v1 ∧ sm v1 < S.1 0
        · exact q
        · rw [if_pos q] at c; exact absurd (by decide) c
      show cutK S.1 (sm v1) j = _
      unfold cutK
      rw [up_ne (by omega)]
      unfold cpy
      rw [if_neg (by omega), up_ne (by omega)]
  · split at h
    · split at h
      · cases h
      · cases h
        have := sm_R v1
        exact up_ne (by omega)
    · split at h
      · split at h
        · cases h
        · cases h
          exact up_ne (by omega)
      · split at h
        · cases h
        · cases h
          have := sm_R v2
          show putK S.1 (sm v1) (sm v2) j = _
          unfold putK
          rw [up_ne (by omega), up_ne (by omega)]
          unfold cpy
          rw [if_neg (by omega)]
theorem lp_runs {g : Bool} {d : Nat} {Q : List xM → Option Value → Prop} {i0 i6 i8 i9 i10 i13 i14 i18 i19 i20 i21 i42 i46 i51 i52 : Int} {x1 x3 x4 x5 x7 x11 x12 x15 x16 x17 x32 x34 x35 x36 x37 x38 x39 x40 x41 x50 : Int → Int} {C V K0 : Int → Int} {b N tk lv t l : Int} {q : CXC} (hTk : TkF C V (cdA K0 (b + N)) (vlA K0) b N) (hq : pOrd C V (pS C V 1 14 20 9) (pT C V 1 14 20 9) tk lv = .inl (q, t, l)) (k0 : 0 ≤ tk) (k1 : tk ≤ N) (v0 : 0 ≤ lv) (v1 : lv ≤ 50) (n0_ : 0 ≤ N) {R_ : Option OS} {D_ : Int} (hD : D_ ≤ 1000) (hok : ∀ (T : OS), R_ = some T → KOK T.1 → (0 ≤ T.2.2.1 ∧ T.2.2.1 ≤ 16) → (0 ≤ T.2.2.2.1 ∧ T.2.2.2.1 ≤ D_) → (-1 ≤ T.2.2.2.2 ∧ T.2.2.2.2 ≤ 99) → (∀ j, j < 0 ∨ 22 ≤ j → T.1 j = K0 j) → ∀ (j22 j23 j24 j25 j47 j48 : Int) (y26 y29 y30 y49 : Int → Int), rgo (y49 0) → rgo (y49 1) → Q (MM i0 i6 i8 i9 i10 i13 i14 i18 i19 i20 i21 j22 j23 j24 j25 T.2.2.2.1 T.2.2.2.2 T.2.2.1 i42 (b + t + 1) q.2.2.2.1 q.1 i46 j47 j48 i51 i52 x1 T.1 x3 x4 x5 x7 x11 x12 x15 x16 x17 y26 y29 y30 T.2.1 x32 x34 x35 x36 x37 x38 x39 x40 x41 y49 x50) (some (.int (ii 1)))) (her : R_ = none → ∀ (K Z : Int → Int) (u dn lt : Int), (∀ j, j < 0 ∨ 22 ≤ j → K j = K0 j) → ∀ (j22 j23 j24 j25 j47 j48 : Int) (y26 y29 y30 y49 : Int → Int), rgo (y49 0) → rgo (y49 1) → Q (MM i0 i6 i8 i9 i10 i13 i14 i18 i19 i20 i21 j22 j23 j24 j25 dn lt u i42 (b + tk) q.2.2.2.1 q.1 i46 j47 j48 i51 i52 x1 K x3 x4 x5 x7 x11 x12 x15 x16 x17 y26 y29 y30 Z x32 x34 x35 x36 x37 x38 x39 x40 x41 y49 x50) (some (.int (ii 0))))  : ∀ (nn : Nat) (n : Nat) (kk : Int) (K : Int → Int) (Z : Int → Int) (u : Int) (dn : Int) (lt : Int) (j22 : Int) (j23 : Int) (j24 : Int) (j25 : Int) (j47 : Int) (j48 : Int) (y26 : Int → Int) (y29 : Int → Int) (y30 : Int → Int) (y49 : Int → Int), ((n : Int)).toNat = nn → KOK K → 0 ≤ u → u ≤ 16 → 0 ≤ dn → dn + n ≤ D_ → -1 ≤ lt → lt ≤ 99 → Hd (∀ j, j < 0 ∨ 22 ≤ j → K j = K0 j) → rgo (y49 0) → rgo (y49 1) → kk + n = q.2.2.2.1 → 0 ≤ kk → tmO q n (K, Z, u, dn, lt) = R_ → SJ g m_Mod_runs (d + 91) 19 [some (.ref 0), some (.int (ii (b + N))), some (.int (ii (q.2.2.2.1))), some (.int (ii (b + t + 1))), some (.int (ii kk))] [] (MM i0 i6 i8 i9 i10 i13 i14 i18 i19 i20 i21 j22 j23 j24 j25 dn lt u i42 (b + tk) q.2.2.2.1 q.1 i46 j47 j48 i51 i52 x1 K x3 x4 x5 x7 x11 x12 x15 x16 x17 y26 y29 y30 Z x32 x34 x35 x36 x37 x38 x39 x40 x41 y49 x50) 0 0 Q := by
  intro nn
  induction nn using Nat.strongRecOn with
  | ind nn ih =>
  intro n kk K Z u dn lt j22 j23 j24 j25 j47 j48 y26 y29 y30 y49 hn hk u0 u1 d0 d1 l0 l1 hsm xa xb hn_ h0_ hR
  have hh := ord_h hq
  have hTB := hTk.1
  have hh2 := hh
  unfold CXh at hh2
  rw [if_pos rfl] at hh2
  have htm := hh2.2
  have hhd4 : q.1 = 21 ∨ q.1 = 23 ∨ q.1 = 24 ∨ q.1 = 26 := by
    rcases hh2.1 with ⟨z, -⟩ | ⟨z, -⟩ | ⟨z, -⟩ <;> omega
  clear hh2
  refine j_iload d_Mod_runs_19 rfl ?_
  refine j_iload_n d_Mod_runs_21 rfl ?_
  refine z_icmp_ge (t := 73) d_Mod_runs_22 (by decide) (by first | omega | exact hw _ | exact hx _ _ | assumption) (by first | omega | exact hw _ | exact hx _ _ | assumption) (fun h22 => ?_) (fun h22 => ?_)
  · refine j_aload_n d_Mod_runs_73 rfl ?_
    refine j_iload_n d_Mod_runs_74 rfl ?_
    refine mp_orderAt f_Mod_470 d_Mod_runs_75 ?_
    refine z_iconst d_Mod_runs_78 ?_
    exact z_zreturn rfl (Or.inr rfl) d_Mod_runs_79 (hok (K, Z, u, dn, lt) (by rw [← hR, show n = 0 by omega]; rfl) hk ⟨u0, u1⟩ ⟨d0, by show dn ≤ D_; omega⟩ ⟨l0, l1⟩ (Hd.out hsm) _ _ _ _ _ _ _ _ _ _ xa xb)
  · obtain ⟨n, rfl⟩ : ∃ j, n = j + 1 := ⟨n - 1, by omega⟩
    refine j_aload_n d_Mod_runs_25 rfl ?_
    refine j_iload_n d_Mod_runs_26 rfl ?_
    refine z_iconst d_Mod_runs_27 ?_
    refine v_call2 d_Mod_runs_28 c_Mod_497 rfl ⟨_, rfl, rfl⟩ (Nat.le_of_ble_eq_true rfl) (t_Mod_goes (i23 := b + N) (live := 1) (C := C) (V := V) (b := b) (N := N) (tk := tk) (lv := lv) (t := t) (l := l) (q := q) hk.1.1.1 hk.1.1.2 hk.1.2.1 hk.2.1 (by omega) (by omega) (by rw [cdA_same (K := K0) (K' := K) (fun j hj => Hd.out hsm j (by omega)), vlA_same (K := K0) (K' := K) (fun j hj => Hd.out hsm j (by omega))]; exact hTk) (fun c k _ _ => ow_R hk.1 (by omega) (by omega) c k) hq k0 k1 v0 v1 rfl (by first | exact Or.inr rfl | exact Or.inl rfl) xa xb (fun w24 w47 w48 w49 w29 w30 hF h47 h48 hy0 hy1 => ?_))
    refine j_aload_n d_Mod_runs_31 rfl ?_
    refine mg_testIs f_Mod_488 d_Mod_runs_32 ?_
    refine z_if_ne (t := 41) d_Mod_runs_35 (by decide) (by first | omega | exact hw _ | exact hx _ _ | assumption) (fun h35 => ?_) (fun h35 => ?_)
    · have hte : tstV q (ow K dn lt) = some 1 := (hF rfl).1.mp (by omega)
      refine j_aload_n d_Mod_runs_41 rfl ?_
      refine mg_sumsAre f_Mod_482 d_Mod_runs_42 ?_
      refine z_if_eq (t := 55) d_Mod_runs_45 (by decide) (by first | omega | exact hw _ | exact hx _ _ | assumption) (fun h45 => ?_) (fun h45 => ?_)
      · have hbr : ¬ ((su1 q (ow K dn lt)).isSome = true ∧ (su2 q (ow K dn lt)).isSome = true) := fun z => by have := (hF rfl).2.1.mpr z; omega
        refine z_iconst d_Mod_runs_55 ?_
        first
        | exact z_zreturn rfl (Or.inl rfl) d_Mod_runs_56 (her (by rw [← hR, tmO_n (onO_br hte hbr)]) _ _ _ _ _ (Hd.out hsm) _ _ _ _ _ _ _ _ _ _ hy0 hy1)
        | exact z_zreturn rfl (Or.inl rfl) d_Mod_runs_56 (her (by rw [← hR, tmO_n (by rw [onO_ob hh hte hbr (hF rfl).2.2.1 (hF rfl).2.2.2, ho])]) _ _ _ _ _ (Hd.out hsm) _ _ _ _ _ _ _ _ _ _ hy0 hy1)
      · have hbr : (su1 q (ow K dn lt)).isSome = true ∧ (su2 q (ow K dn lt)).isSome = true := (hF rfl).2.1.mp (by omega)
        refine j_aload_n d_Mod_runs_48 rfl ?_
        refine v_call0 d_Mod_runs_49 c_Mod_501 rfl ⟨_, rfl, rfl⟩ (Nat.le_of_ble_eq_true rfl) (t_Mod_obeys hk u0 u1 hhd4 hy0 hy1 (fun ho r rr r0 e22 e23 e24 e25 z26 z29 z30 => ?_) (fun T ho r rr r0 e22 e23 e24 e25 z26 z29 z30 => ?_))
        · refine z_if_ge (t := 57) d_Mod_runs_52 (by decide) (by first | omega | exact hw _ | exact hx _ _ | assumption) (fun h52 => ?_) (fun h52 => ?_)
          · exfalso
            omega
          · refine z_iconst d_Mod_runs_55 ?_
            first
            | exact z_zreturn rfl (Or.inl rfl) d_Mod_runs_56 (her (by rw [← hR, tmO_n (onO_br hte hbr)]) _ _ _ _ _ (Hd.out hsm) _ _ _ _ _ _ _ _ _ _ hy0 hy1)
            | exact z_zreturn rfl (Or.inl rfl) d_Mod_runs_56 (her (by rw [← hR, tmO_n (by rw [onO_ob hh hte hbr (hF rfl).2.2.1 (hF rfl).2.2.2, ho])]) _ _ _ _ _ (Hd.out hsm) _ _ _ _ _ _ _ _ _ _ hy0 hy1)
        · refine z_if_ge (t := 57) d_Mod_runs_52 (by decide) (by first | omega | exact hw _ | exact hx _ _ | assumption) (fun h52 => ?_) (fun h52 => ?_)
          · refine j_aload_n d_Mod_runs_57 rfl ?_
            refine j_dup d_Mod_runs_58 rfl ?_
            refine mg_orderDone f_Mod_288 d_Mod_runs_59 ?_
            refine z_iconst d_Mod_runs_62 ?_
            refine z_iadd d_Mod_runs_63 ?_
            refine mp_orderDone f_Mod_288 d_Mod_runs_64 ?_
            refine z_iinc d_Mod_runs_67 rfl (by decide) ?_
            show SJ _ _ _ _ [_, _, _, _, _] _ _ _ _ _
            refine j_goto (t := 19) d_Mod_runs_70 (by decide) ?_
            have hob := obK_k hk ho
            have hob2 := obK_o hk ho
            have hon := onO_ob (S := (K, Z, u, dn, lt)) hh hte hbr (hF rfl).2.2.1 (hF rfl).2.2.2
            rw [ho] at hon
            have hon2 : onO q (K, Z, u, dn, lt) = some (T.1, T.2.1, T.2.2.1, T.2.2.2.1 + 1, T.2.2.2.2) := hon
            rw [tmO_s hon2, hob.2.2.2.1] at hR
            have hlt : -1 ≤ T.2.2.2.2 ∧ T.2.2.2.2 ≤ 99 := by
              rcases hob.2.2.2.2 with z | z
              · rw [z]; exact ⟨l0, l1⟩
              · omega
            have huu := hob.2.2.1 u0 u1
            refine ih _ (by omega) n (kk + 1) T.1 T.2.1 T.2.2.1 (dn + 1) T.2.2.2.2 _ _ _ _ _ _ _ _ _ _ rfl hob.1 huu.1 huu.2 (by omega) (by omega) hlt.1 hlt.2 (fun j hj => ?_) hy0 hy1 (by omega) (by omega) hR
            rcases hj with hj | hj
            · exact (hob2 j hj).trans (Hd.out hsm j (Or.inl hj))
            · exact (hob.2.1 j hj).trans (Hd.out hsm j (Or.inr hj))
          · exfalso
            omega
    · have hte : ¬ tstV q (ow K dn lt) = some 1 := fun z => by have := (hF rfl).1.mpr z; omega
      refine j_goto (t := 67) d_Mod_runs_38 (by decide) ?_
      refine z_iinc d_Mod_runs_67 rfl (by decide) ?_
      show SJ _ _ _ _ [_, _, _, _, _] _ _ _ _ _
      refine j_goto (t := 19) d_Mod_runs_70 (by decide) ?_
      rw [tmO_s (onO_no hte)] at hR
      exact ih _ (by omega) n (kk + 1) K Z u dn lt _ _ _ _ _ _ _ _ _ _ rfl hk u0 u1 d0 (by omega) l0 l1 hsm hy0 hy1 (by omega) (by omega) hR
theorem t_Mod_runs {g : Bool} {d : Nat} {Q : List xM → Option Value → Prop} {i0 i6 i8 i9 i10 i13 i14 i18 i19 i20 i21 i22 i23 i24 i25 i27 i28 i33 i42 i44 i45 i46 i47 i48 i51 i52 : Int} {x1 x2 x3 x4 x5 x7 x11 x12 x15 x16 x17 x26 x29 x30 x31 x32 x34 x35 x36 x37 x38 x39 x40 x41 x49 x50 : Int → Int} {C V K0 : Int → Int} {b N tk lv t l : Int} {q : CXC} (hTk : TkF C V (cdA K0 (b + N)) (vlA K0) b N) (hq : pOrd C V (pS C V 1 14 20 9) (pT C V 1 14 20 9) tk lv = .inl (q, t, l)) (k0 : 0 ≤ tk) (k1 : tk ≤ N) (v0 : 0 ≤ lv) (v1 : lv ≤ 50) (n0_ : 0 ≤ N) {D_ : Int} (hD : D_ ≤ 1000) (hk : KOK x2) (u0 : 0 ≤ i33) (u1 : i33 ≤ 16) (d0 : 0 ≤ i27) (d1 : i27 + 20 ≤ D_) (l0 : -1 ≤ i28) (l1 : i28 ≤ 99) (hsm : Hd (∀ j, j < 0 ∨ 22 ≤ j → x2 j = K0 j)) (xa : rgo (x49 0)) (xb : rgo (x49 1)) (hok : ∀ (T : OS), tmO q q.2.2.2.1.toNat (x2, x31, i33, i27, i28) = some T → KOK T.1 → (0 ≤ T.2.2.1 ∧ T.2.2.1 ≤ 16) → (0 ≤ T.2.2.2.1 ∧ T.2.2.2.1 ≤ D_) → (-1 ≤ T.2.2.2.2 ∧ T.2.2.2.2 ≤ 99) → (∀ j, j < 0 ∨ 22 ≤ j → T.1 j = K0 j) → ∀ (j22 j23 j24 j25 j47 j48 : Int) (y26 y29 y30 y49 : Int → Int), rgo (y49 0) → rgo (y49 1) → Q (MM i0 i6 i8 i9 i10 i13 i14 i18 i19 i20 i21 j22 j23 j24 j25 T.2.2.2.1 T.2.2.2.2 T.2.2.1 i42 (b + t + 1) q.2.2.2.1 q.1 i46 j47 j48 i51 i52 x1 T.1 x3 x4 x5 x7 x11 x12 x15 x16 x17 y26 y29 y30 T.2.1 x32 x34 x35 x36 x37 x38 x39 x40 x41 y49 x50) (some (.int (ii 1)))) (her : tmO q q.2.2.2.1.toNat (x2, x31, i33, i27, i28) = none → ∀ (K Z : Int → Int) (u dn lt : Int), (∀ j, j < 0 ∨ 22 ≤ j → K j = K0 j) → ∀ (j22 j23 j24 j25 j47 j48 : Int) (y26 y29 y30 y49 : Int → Int), rgo (y49 0) → rgo (y49 1) → Q (MM i0 i6 i8 i9 i10 i13 i14 i18 i19 i20 i21 j22 j23 j24 j25 dn lt u i42 (b + tk) q.2.2.2.1 q.1 i46 j47 j48 i51 i52 x1 K x3 x4 x5 x7 x11 x12 x15 x16 x17 y26 y29 y30 Z x32 x34 x35 x36 x37 x38 x39 x40 x41 y49 x50) (some (.int (ii 0))))  : CT g m_Mod_runs (d + 91) [.ref 0, .int (ii (b + N))] (MM i0 i6 i8 i9 i10 i13 i14 i18 i19 i20 i21 i22 i23 i24 i25 i27 i28 i33 i42 (b + tk) i44 i45 i46 i47 i48 i51 i52 x1 x2 x3 x4 x5 x7 x11 x12 x15 x16 x17 x26 x29 x30 x31 x32 x34 x35 x36 x37 x38 x39 x40 x41 x49 x50) 0 0 Q := by
  refine CT.of (by decide) (Nat.le_of_ble_eq_true rfl) ?_
  show SJ _ _ _ _ [some (.ref 0), some (.int (ii (b + N))), none, none, none] [] _ _ _ _
  have hh := ord_h hq
  have hTB := hTk.1
  have hh2 := hh
  unfold CXh at hh2
  rw [if_pos rfl] at hh2
  have htm := hh2.2
  clear hh2
  refine j_aload_n d_Mod_runs_0 rfl ?_
  refine j_iload_n d_Mod_runs_1 rfl ?_
  refine z_iconst d_Mod_runs_2 ?_
  refine v_call2 d_Mod_runs_3 c_Mod_497 rfl ⟨_, rfl, rfl⟩ (Nat.le_of_ble_eq_true rfl) (t_Mod_goes (i23 := b + N) (live := 0) (C := C) (V := V) (b := b) (N := N) (tk := tk) (lv := lv) (t := t) (l := l) (q := q) hk.1.1.1 hk.1.1.2 hk.1.2.1 hk.2.1 (by omega) (by omega) (by rw [cdA_same (K := K0) (K' := x2) (fun j hj => Hd.out hsm j (by omega)), vlA_same (K := K0) (K' := x2) (fun j hj => Hd.out hsm j (by omega))]; exact hTk) (fun c k _ _ => ow_R hk.1 (by omega) (by omega) c k) hq k0 k1 v0 v1 rfl (by first | exact Or.inr rfl | exact Or.inl rfl) xa xb (fun w24 w47 w48 w49 w29 w30 hF h47 h48 hy0 hy1 => ?_))
  refine j_aload_n d_Mod_runs_6 rfl ?_
  refine mg_timesOf f_Mod_485 d_Mod_runs_7 ?_
  refine j_istore_n d_Mod_runs_10 (by decide) ?_
  show SJ _ _ _ _ [_, _, _, _, _] _ _ _ _ _
  refine j_aload_n d_Mod_runs_11 rfl ?_
  refine mg_go f_Mod_249 d_Mod_runs_12 ?_
  refine j_istore_n d_Mod_runs_15 (by decide) ?_
  show SJ _ _ _ _ [_, _, _, _, _] _ _ _ _ _
  refine z_iconst d_Mod_runs_16 ?_
  refine j_istore d_Mod_runs_17 (by decide) ?_
  show SJ _ _ _ _ [_, _, _, _, _] _ _ _ _ _
  exact lp_runs hTk hq k0 k1 v0 v1 n0_ hD hok her _ q.2.2.2.1.toNat 0 x2 x31 i33 i27 i28 _ _ _ _ _ _ _ _ _ _ rfl hk u0 u1 d0 (by omega) l0 l1 hsm hy0 hy1 (by omega) (by omega) rfl
theorem ruO_s {q : CXC} {qs : List CXC} {n : Int} {S T : OS} (h : tmO q q.2.2.2.1.toNat S = some T) : ruO (q :: qs) n S = ruO qs (n + 1) T := by
  rw [ruO, h]
theorem ruO_n {q : CXC} {qs : List CXC} {n : Int} {S : OS} (h : tmO q q.2.2.2.1.toNat S = none) : ruO (q :: qs) n S = .inr n := by
  rw [ruO, h]
theorem pOne_1 {C V : Int → Int} {tk lv : Int} : pOne C V 1 14 20 tk lv = pOrd C V (pS C V 1 14 20 9) (pT C V 1 14 20 9) tk lv := if_pos rfl
theorem lp_orders {g : Bool} {d : Nat} {Q : List xM → Option Value → Prop} {i0 i6 i8 i9 i10 i13 i14 i18 i19 i20 i21 i42 i46 i51 i52 : Int} {x1 x3 x4 x5 x7 x11 x12 x15 x16 x17 x32 x34 x35 x36 x37 x38 x39 x40 x41 x50 : Int → Int} {C V K0 : Int → Int} {N : Int} (hTk : TkF C V (cdA K0 (2400 + N)) (vlA K0) 2400 N) (n0_ : 0 ≤ N) {R_ : Sum OS Int} (hok : ∀ (T : OS), R_ = .inl T → KOK T.1 → (0 ≤ T.2.2.1 ∧ T.2.2.1 ≤ 16) → (∀ j, j < 0 ∨ 22 ≤ j → T.1 j = K0 j) → ∀ (j22 j23 j24 j25 j47 j48 j43 j44 j45 : Int) (y26 y29 y30 y49 : Int → Int), rgo (y49 0) → rgo (y49 1) → Q (MM 0 i6 i8 i9 i10 i13 i14 i18 i19 i20 i21 j22 j23 j24 j25 T.2.2.2.1 T.2.2.2.2 T.2.2.1 i42 j43 j44 j45 i46 j47 j48 i51 i52 x1 T.1 x3 x4 x5 x7 x11 x12 x15 x16 x17 y26 y29 y30 T.2.1 x32 x34 x35 x36 x37 x38 x39 x40 x41 y49 x50) (some (.int (ii T.2.2.2.1)))) (her : ∀ (m : Int), R_ = .inr m → ∀ (K Z : Int → Int) (dn lt : Int), (∀ j, j < 0 ∨ 22 ≤ j → K j = K0 j) → ∀ (j22 j23 j24 j25 j47 j48 j43 j44 j45 : Int) (y26 y29 y30 y49 : Int → Int), rgo (y49 0) → rgo (y49 1) → Q (MM (-3) i6 i8 i9 i10 i13 i14 i18 i19 i20 i21 j22 j23 j24 j25 dn lt i46 m j43 j44 j45 i46 j47 j48 i51 i52 (up x1 (0 - (-3)) (x1 (0 - (-3)) + 1)) (cpy x5 K (22 * 1) 0 22) x3 x4 x5 x7 x11 x12 x15 x16 x17 y26 y29 y30 (cpy x32 Z 0 0 368) x32 x34 x35 x36 x37 x38 x39 x40 x41 y49 x50) (some (.int (ii (-3)))))  : ∀ (nn : Nat) (cs : List CXC) (n : Int) (tk : Int) (lv : Int) (K : Int → Int) (Z : Int → Int) (u : Int) (dn : Int) (lt : Int) (j44 : Int) (j45 : Int) (j22 : Int) (j23 : Int) (j24 : Int) (j25 : Int) (j47 : Int) (j48 : Int) (y26 : Int → Int) (y29 : Int → Int) (y30 : Int → Int) (y49 : Int → Int), ((cs.length : Int)).toNat = nn → KOK K → 0 ≤ u → u ≤ 16 → 0 ≤ dn → dn + 20 * (cs.length : Int) ≤ 1000 → -1 ≤ lt → lt ≤ 99 → Hd (∀ j, j < 0 ∨ 22 ≤ j → K j = K0 j) → rgo (y49 0) → rgo (y49 1) → 0 ≤ tk → tk ≤ N + 1 → Hd (CH (pOne C V 1 14 20) N cs tk lv) → ruO cs n (K, Z, u, dn, lt) = R_ → SJ g m_Mod_orders (d + 92) 62 [some (.ref 0), some (.int (ii (2400 + N))), some (.int (ii n))] [] (MM i0 i6 i8 i9 i10 i13 i14 i18 i19 i20 i21 j22 j23 j24 j25 dn lt u i42 (2400 + tk) j44 j45 i46 j47 j48 i51 i52 x1 K x3 x4 x5 x7 x11 x12 x15 x16 x17 y26 y29 y30 Z x32 x34 x35 x36 x37 x38 x39 x40 x41 y49 x50) 0 0 Q := by
  intro nn
  induction nn using Nat.strongRecOn with
  | ind nn ih =>
  intro cs n tk lv K Z u dn lt j44 j45 j22 j23 j24 j25 j47 j48 y26 y29 y30 y49 hn hk u0 u1 d0 d1 l0 l1 hsm xa xb ht0 ht1 hch hR
  have hTB := hTk.1
  refine j_aload_n d_Mod_orders_62 rfl ?_
  refine mg_orderAt f_Mod_470 d_Mod_orders_63 ?_
  refine j_iload_n d_Mod_orders_66 rfl ?_
  refine z_icmp_ge (t := 103) d_Mod_orders_67 (by decide) (by first | omega | exact hw _ | exact hx _ _ | assumption) (by first | omega | exact hw _ | exact hx _ _ | assumption) (fun h67 => ?_) (fun h67 => ?_)
  · have hnil : cs = [] := by
      cases cs with
      | nil => rfl
      | cons a b => obtain ⟨t, l, hq, hb3, hb4, hch2⟩ := Hd.out hch; omega
    subst hnil
    refine j_aload_n d_Mod_orders_103 rfl ?_
    refine j_aload_n d_Mod_orders_104 rfl ?_
    refine mg_orderDone f_Mod_288 d_Mod_orders_105 ?_
    refine v_call1 d_Mod_orders_108 c_Mod_14 rfl ⟨_, rfl, rfl⟩ (Nat.le_of_ble_eq_true rfl) (t_Mod_good  ?_)
    exact z_iret rfl d_Mod_orders_111 rfl (hok (K, Z, u, dn, lt) hR.symm hk ⟨u0, u1⟩ (Hd.out hsm) _ _ _ _ _ _ _ _ _ _ _ _ _ xa xb)
  · obtain ⟨q, qs, rfl⟩ : ∃ a b, cs = a :: b := by
      cases cs with
      | nil => have z : tk = N + 1 := Hd.out hch; omega
      | cons a b => exact ⟨a, b, rfl⟩
    obtain ⟨t, l, hq, hb3, hb4, hch2⟩ := Hd.out hch
    rw [pOne_1] at hq
    have hll : ((q :: qs).length : Int) = (qs.length : Int) + 1 := rfl
    refine j_aload_n d_Mod_orders_70 rfl ?_
    refine j_iload_n d_Mod_orders_71 rfl ?_
    refine v_call1 d_Mod_orders_72 c_Mod_473 rfl ⟨_, rfl, rfl⟩ (Nat.le_of_ble_eq_true rfl) (t_Mod_runs (D_ := dn + 20) hTk hq hb3.1 (by omega) hb4.1 hb4.2 n0_ (by omega) hk u0 u1 d0 (by omega) l0 l1 hsm xa xb (fun T hT kT uT dT lT sT e22 e23 e24 e25 e47 e48 z26 z29 z30 z49 hy0 hy1 => ?_) (fun hT K2 Z2 u2 dn2 lt2 sK e22 e23 e24 e25 e47 e48 z26 z29 z30 z49 hy0 hy1 => ?_))
    · refine z_if_eq (t := 81) d_Mod_orders_75 (by decide) (by first | omega | exact hw _ | exact hx _ _ | assumption) (fun h => absurd h (by decide)) (fun _ => ?_)
      refine j_goto (t := 97) d_Mod_orders_78 (by decide) ?_
      refine z_iinc d_Mod_orders_97 rfl (by decide) ?_
      show SJ _ _ _ _ [_, _, _] _ _ _ _ _
      refine j_goto (t := 62) d_Mod_orders_100 (by decide) ?_
      have hgl := (pOne_R (C := C) (V := V) (io := 1) (fw := 14) (lw := 20) hTk.2.1 (by decide) tk lv ht0 (by omega) hb4.1 hb4.2).1 _ _ _ (pOne_1.trans hq)
      rw [ruO_s hT] at hR
      rw [show 2400 + t + 1 = 2400 + (t + 1) by omega]
      exact ih _ (by omega) qs (n + 1) (t + 1) l T.1 T.2.1 T.2.2.1 T.2.2.2.1 T.2.2.2.2 _ _ _ _ _ _ _ _ _ _ _ _ rfl kT uT.1 uT.2 dT.1 (by omega) lT.1 lT.2 sT hy0 hy1 (by omega) (by omega) hch2 hR
    · refine z_if_eq (t := 81) d_Mod_orders_75 (by decide) (by first | omega | exact hw _ | exact hx _ _ | assumption) (fun _ => ?_) (fun h => absurd h (by decide))
      refine j_aload_n d_Mod_orders_81 rfl ?_
      refine v_call0 d_Mod_orders_82 c_Mod_476 rfl ⟨_, rfl, rfl⟩ (Nat.le_of_ble_eq_true rfl) (t_Mod_takesAllBack ?_)
      refine j_aload_n d_Mod_orders_85 rfl ?_
      refine j_iload_n d_Mod_orders_86 rfl ?_
      refine mp_stopped0 f_Mod_107 d_Mod_orders_87 ?_
      refine j_aload_n d_Mod_orders_90 rfl ?_
      refine z_bipush d_Mod_orders_91 (by decide) ?_
      refine v_call1 d_Mod_orders_93 c_Mod_119 rfl ⟨_, rfl, rfl⟩ (Nat.le_of_ble_eq_true rfl) (t_Mod_refuses (by omega) (by omega) ?_)
      exact z_iret rfl d_Mod_orders_96 rfl (her n (by rw [← hR, ruO_n hT]) _ _ _ _ sK _ _ _ _ _ _ _ _ _ _ _ _ _ hy0 hy1)
theorem t_Mod_orders {g : Bool} {d : Nat} {Q : List xM → Option Value → Prop} {i0 i6 i8 i9 i10 i13 i14 i18 i19 i20 i21 i22 i23 i24 i25 i27 i28 i33 i42 i43 i44 i45 i46 i47 i48 i51 i52 : Int} {x1 x2 x3 x4 x5 x7 x11 x12 x15 x16 x17 x26 x29 x30 x31 x32 x34 x35 x36 x37 x38 x39 x40 x41 x49 x50 : Int → Int} (ht : ∀ j, 0 ≤ j → j < 400 → -128 ≤ x11 j ∧ x11 j ≤ 127) (hw7 : ∀ j, 0 ≤ j → j < 137 → x7 j = ofL TA j) (t0_ : 0 ≤ i13) (t1_ : i13 ≤ 400) {K_ : TKS} (hK : tkz x11 i13 (i18, x15, x16, x17) = K_) (hk6 : ∀ (cs : List CXC) (t l : Int), pRd K_.2.1 K_.2.2.1 K_.1 1 14 20 = .inl (cs, t, l) → KOK (lyK x2 K_.2.1 K_.2.2.1 K_.1 6)) (u0 : 0 ≤ i33) (u1 : i33 ≤ 16) (xa : rgo (x49 0)) (xb : rgo (x49 1)) (hlen : ∀ (cs : List CXC) (t l : Int), pRd K_.2.1 K_.2.2.1 K_.1 1 14 20 = .inl (cs, t, l) → cs.length ≤ 12) (her : ∀ (t : Int), pRd K_.2.1 K_.2.2.1 K_.1 1 14 20 = .inr t → ∀ j19 j20 j21, Q (MM (-6) i6 14 20 1 0 (K_.2.2.2 t) K_.1 j19 j20 j21 i22 i23 i24 i25 i27 i28 i33 (-1) i43 i44 i45 i46 i47 i48 i51 i52 (up x1 (0 - (-6)) (x1 (0 - (-6)) + 1)) x2 x3 x4 x5 x7 x11 x12 K_.2.1 K_.2.2.1 K_.2.2.2 x26 x29 x30 x31 x32 x34 x35 x36 x37 x38 x39 x40 x41 x49 x50) (some (.int (ii (-6))))) (hok : ∀ (cs : List CXC) (t l : Int), pRd K_.2.1 K_.2.2.1 K_.1 1 14 20 = .inl (cs, t, l) → ∀ (T : OS), ruO cs 0 ((lyK x2 K_.2.1 K_.2.2.1 K_.1 6), x31, i33, 0, -1) = .inl T → KOK T.1 → (0 ≤ T.2.2.1 ∧ T.2.2.1 ≤ 16) → (∀ j, j < 0 ∨ 22 ≤ j → T.1 j = (lyK x2 K_.2.1 K_.2.2.1 K_.1 6) j) → ∀ j19 j20 j21, ∀ (j22 j23 j24 j25 j47 j48 j43 j44 j45 : Int) (y26 y29 y30 y49 : Int → Int), rgo (y49 0) → rgo (y49 1) → Q (MM 0 i6 14 20 1 0 (-1) K_.1 j19 j20 j21 j22 j23 j24 j25 T.2.2.2.1 T.2.2.2.2 T.2.2.1 (-1) j43 j44 j45 i33 j47 j48 i51 i52 x1 T.1 x3 x4 (cpy x2 x5 0 (22 * 1) 22) x7 x11 x12 K_.2.1 K_.2.2.1 K_.2.2.2 y26 y29 y30 T.2.1 (cpy x31 x32 0 0 368) x34 x35 x36 x37 x38 x39 x40 x41 y49 x50) (some (.int (ii T.2.2.2.1)))) (hst : ∀ (cs : List CXC) (t l : Int), pRd K_.2.1 K_.2.2.1 K_.1 1 14 20 = .inl (cs, t, l) → ∀ (m : Int), ruO cs 0 ((lyK x2 K_.2.1 K_.2.2.1 K_.1 6), x31, i33, 0, -1) = .inr m → ∀ (K Z : Int → Int) (dn lt : Int), (∀ j, j < 0 ∨ 22 ≤ j → K j = (lyK x2 K_.2.1 K_.2.2.1 K_.1 6) j) → ∀ j19 j20 j21, ∀ (j22 j23 j24 j25 j47 j48 j43 j44 j45 : Int) (y26 y29 y30 y49 : Int → Int), rgo (y49 0) → rgo (y49 1) → Q (MM (-3) i6 14 20 1 0 (-1) K_.1 j19 j20 j21 j22 j23 j24 j25 dn lt i33 m j43 j44 j45 i33 j47 j48 i51 i52 (up x1 (0 - (-3)) (x1 (0 - (-3)) + 1)) (cpy (cpy x2 x5 0 (22 * 1) 22) K (22 * 1) 0 22) x3 x4 (cpy x2 x5 0 (22 * 1) 22) x7 x11 x12 K_.2.1 K_.2.2.1 K_.2.2.2 y26 y29 y30 (cpy (cpy x31 x32 0 0 368) Z 0 0 368) (cpy x31 x32 0 0 368) x34 x35 x36 x37 x38 x39 x40 x41 y49 x50) (some (.int (ii (-3)))))  : CT g m_Mod_orders (d + 92) [.ref 0] (MM i0 i6 i8 i9 i10 i13 i14 i18 i19 i20 i21 i22 i23 i24 i25 i27 i28 i33 i42 i43 i44 i45 i46 i47 i48 i51 i52 x1 x2 x3 x4 x5 x7 x11 x12 x15 x16 x17 x26 x29 x30 x31 x32 x34 x35 x36 x37 x38 x39 x40 x41 x49 x50) 0 0 Q := by
  refine CT.of (by decide) (Nat.le_of_ble_eq_true rfl) ?_
  show SJ _ _ _ _ [some (.ref 0), none, none] [] _ _ _ _
  have hz := tkz_R (t := x11) (size := i13) (q := (i18, x15, x16, x17)) t0_ t1_ (fun j a b => by have := ht j a (by omega); omega)
  rw [hK] at hz
  have hly := lyK_at (K := x2) (C := K_.2.1) (V := K_.2.2.1) (N := K_.1) (f := 6) (by decide) (by decide) hz.1 hz.2.1
  refine j_aload_n d_Mod_orders_0 rfl ?_
  refine z_iconst d_Mod_orders_1 ?_
  refine mp_stopped0 f_Mod_107 d_Mod_orders_2 ?_
  refine j_aload_n d_Mod_orders_5 rfl ?_
  refine z_iconst d_Mod_orders_6 ?_
  refine v_call1 d_Mod_orders_7 c_Mod_236 rfl ⟨_, rfl, rfl⟩ (Nat.le_of_ble_eq_true rfl) (t_Mod_readsAs1 ht hw7 t0_ t1_ hK (fun cs t l e j19 j20 j21 => ?_) (fun t e j19 j20 j21 => ?_))
  · refine z_if_ne (t := 20) d_Mod_orders_10 (by decide) (by first | omega | exact hw _ | exact hx _ _ | assumption) (fun _ => ?_) (fun h => absurd h (by decide))
    refine j_aload_n d_Mod_orders_20 rfl ?_
    refine v_call0 d_Mod_orders_21 c_Mod_467 rfl ⟨_, rfl, rfl⟩ (Nat.le_of_ble_eq_true rfl) (t_Mod_laysAllAside ?_)
    refine j_aload_n d_Mod_orders_24 rfl ?_
    refine z_bipush d_Mod_orders_25 (by decide) ?_
    refine v_call1 d_Mod_orders_27 c_Mod_240 rfl ⟨_, rfl, rfl⟩ (Nat.le_of_ble_eq_true rfl) (t_Mod_lays (by omega) (by omega) hz.1 hz.2.1 ?_)
    refine j_aload_n d_Mod_orders_30 rfl ?_
    refine z_iconst d_Mod_orders_31 ?_
    refine mp_orderDone f_Mod_288 d_Mod_orders_32 ?_
    refine j_aload_n d_Mod_orders_35 rfl ?_
    refine z_iconst d_Mod_orders_36 ?_
    refine mp_orderLatest f_Mod_291 d_Mod_orders_37 ?_
    refine j_aload_n d_Mod_orders_40 rfl ?_
    refine z_sipush d_Mod_orders_41 (by decide) ?_
    refine mp_orderAt f_Mod_470 d_Mod_orders_44 ?_
    refine j_aload_n d_Mod_orders_47 rfl ?_
    refine mg_orderAt f_Mod_470 d_Mod_orders_48 ?_
    refine j_aload_n d_Mod_orders_51 rfl ?_
    refine mg_kept f_Mod_32 d_Mod_orders_52 ?_
    refine z_bipush d_Mod_orders_55 (by decide) ?_
    refine ml_kept d_Mod_orders_57 (by omega) (by omega) ?_
    rw [show lyK x2 K_.2.1 K_.2.2.1 K_.1 6 32 = K_.1 from hly.1]
    refine z_iadd d_Mod_orders_58 ?_
    refine j_istore_n d_Mod_orders_59 (by decide) ?_
    show SJ _ _ _ _ [_, _, _] _ _ _ _ _
    refine z_iconst d_Mod_orders_60 ?_
    refine j_istore_n d_Mod_orders_61 (by decide) ?_
    show SJ _ _ _ _ [_, _, _] _ _ _ _ _
    have hTk := lay_TkF (K := x2) (C := K_.2.1) (V := K_.2.2.1) (N := K_.1) (f := 6) (by decide) (by decide) hz.1 hz.2.1 hz.2.2.1 (fun k a b => (hz.2.2.2 k a (by omega)).2.1)
    rw [show (400 : Int) * 6 = 2400 by decide] at hTk
    have hch := ch_rd hz.1 hz.2.2.1 (by decide) e
    have hcl := hlen cs t l e
    exact lp_orders (K0 := (lyK x2 K_.2.1 K_.2.2.1 K_.1 6)) hTk hz.1 (fun T e1 e2 e3 e4 e_0 e_1 e_2 e_3 e_4 e_5 e_6 e_7 e_8 e_9 e_10 e_11 e_12 y0 y1 => hok cs t l e T e1 e2 e3 e4 _ _ _ _ _ _ _ _ _ _ _ _ _ _ _ _ y0 y1) (fun m e1 K Z dn lt e2 e_0 e_1 e_2 e_3 e_4 e_5 e_6 e_7 e_8 e_9 e_10 e_11 e_12 y0 y1 => hst cs t l e m e1 K Z dn lt e2 _ _ _ _ _ _ _ _ _ _ _ _ _ _ _ _ y0 y1) _ cs 0 0 0 _ _ _ _ _ _ _ _ _ _ _ _ _ _ _ _ _ rfl (hk6 cs t l e) u0 u1 (by omega) (by omega) (by omega) (by omega) (fun j _ => rfl) xa xb (by omega) (by omega) hch rfl
  · refine z_if_ne (t := 20) d_Mod_orders_10 (by decide) (by first | omega | exact hw _ | exact hx _ _ | assumption) (fun h => absurd h (by decide)) (fun _ => ?_)
    refine j_aload_n d_Mod_orders_13 rfl ?_
    refine z_bipush d_Mod_orders_14 (by decide) ?_
    refine v_call1 d_Mod_orders_16 c_Mod_119 rfl ⟨_, rfl, rfl⟩ (Nat.le_of_ble_eq_true rfl) (t_Mod_refuses (by omega) (by omega) ?_)
    exact z_iret rfl d_Mod_orders_19 rfl (her t e _ _ _)
