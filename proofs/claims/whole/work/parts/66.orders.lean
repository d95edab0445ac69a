theorem tmO_s {q : CXC} {n : Nat} {S T : OS} (h : onO q S = some T) : tmO q (n + 1) S = tmO q n T := by
  rw [tmO, h]
theorem tmO_n {q : CXC} {n : Nat} {S : OS} (h : onO q S = none) : tmO q (n + 1) S = none := by
  rw [tmO, h]
theorem obK_o {hd v1 v2 : Int} {S T : OS} (hk : KOK S.1) (h : obK hd v1 v2 S = some T) : ∀ j, j < 0 → T.1 j = S.1 j := by
  intro j hj
  have hKR := hk.1.1
  unfold obK at h
  split at h
  · split at h
    · cases h
    · next c =>
      cases h
      have hp : 0 ≤ sm v1 ∧ sm v1 < S.1 0 := by
        unfold cuR at c
        by_cases q : 0 ≤ sm v1 ∧ sm v1 < S.1 0
        · exact q
        · rw [if_pos q] at c; exact absurd (by decide) c
      show cutK S.1 (sm v1) j = _
      unfold cutK
      rw [up_ne (by omega)]
      unfold cpy
      rw [if_neg (by omega), up_ne (by omega)]
  · split at h
    · split at h
      · cases h
      · cases h
        have := sm_R v1
        exact up_ne (by omega)
    · split at h
      · split at h
        · cases h
        · cases h
          exact up_ne (by omega)
      · split at h
        · cases h
        · cases h
          have := sm_R v2
          show putK S.1 (sm v1) (sm v2) j = _
          unfold putK
          rw [up_ne (by omega), up_ne (by omega)]
          unfold cpy
          rw [if_neg (by omega)]
theorem lp_runs {g : Bool} {d : Nat} {Q : List xM → Option Value → Prop} {i0 i6 i8 i9 i10 i13 i14 i18 i19 i20 i21 i42 i46 i51 i52 : Int} {x1 x3 x4 x5 x7 x11 x12 x15 x16 x17 x32 x34 x35 x36 x37 x38 x39 x40 x41 x50 : Int → Int} {C V K0 : Int → Int} {b N tk lv t l : Int} {q : CXC} (hTk : TkF C V (cdA K0 (b + N)) (vlA K0) b N) (hq : pOrd C V (pS C V 1 14 20 9) (pT C V 1 14 20 9) tk lv = .inl (q, t, l)) (k0 : 0 ≤ tk) (k1 : tk ≤ N) (v0 : 0 ≤ lv) (v1 : lv ≤ 50) (n0_ : 0 ≤ N) {R_ : Option OS} {D_ : Int} (hD : D_ ≤ 1000) (hok : ∀ (T : OS), R_ = some T → KOK T.1 → (0 ≤ T.2.2.1 ∧ T.2.2.1 ≤ 16) → (0 ≤ T.2.2.2.1 ∧ T.2.2.2.1 ≤ D_) → (-1 ≤ T.2.2.2.2 ∧ T.2.2.2.2 ≤ 99) → (∀ j, j < 0 ∨ 22 ≤ j → T.1 j = K0 j) → ∀ (j22 j23 j24 j25 j47 j48 : Int) (y26 y29 y30 y49 : Int → Int), rgo (y49 0) → rgo (y49 1) → Q (MM i0 i6 i8 i9 i10 i13 i14 i18 i19 i20 i21 j22 j23 j24 j25 T.2.2.2.1 T.2.2.2.2 T.2.2.1 i42 (b + t + 1) q.2.2.2.1 q.1 i46 j47 j48 i51 i52 x1 T.1 x3 x4 x5 x7 x11 x12 x15 x16 x17 y26 y29 y30 T.2.1 x32 x34 x35 x36 x37 x38 x39 x40 x41 y49 x50) (some (.int (ii 1)))) (her : R_ = none → ∀ (K Z : Int → Int) (u dn lt : Int), (∀ j, j < 0 ∨ 22 ≤ j → K j = K0 j) → ∀ (j22 j23 j24 j25 j47 j48 : Int) (y26 y29 y30 y49 : Int → Int), rgo (y49 0) → rgo (y49 1) → Q (MM i0 i6 i8 i9 i10 i13 i14 i18 i19 i20 i21 j22 j23 j24 j25 dn lt u i42 (b + tk) q.2.2.2.1 q.1 i46 j47 j48 i51 i52 x1 K x3 x4 x5 x7 x11 x12 x15 x16 x17 y26 y29 y30 Z x32 x34 x35 x36 x37 x38 x39 x40 x41 y49 x50) (some (.int (ii 0))))  : ∀ (nn : Nat) (n : Nat) (kk : Int) (K : Int → Int) (Z : Int → Int) (u : Int) (dn : Int) (lt : Int) (j22 : Int) (j23 : Int) (j24 : Int) (j25 : Int) (j47 : Int) (j48 : Int) (y26 : Int → Int) (y29 : Int → Int) (y30 : Int → Int) (y49 : Int → Int), ((n : Int)).toNat = nn → KOK K → 0 ≤ u → u ≤ 16 → 0 ≤ dn → dn + n ≤ D_ → -1 ≤ lt → lt ≤ 99 → Hd (∀ j, j < 0 ∨ 22 ≤ j → K j = K0 j) → rgo (y49 0) → rgo (y49 1) → kk + n = q.2.2.2.1 → 0 ≤ kk → tmO q n (K, Z, u, dn, lt) = R_ → SJ g m_Mod_runs (d + 91) 19 [some (.ref 0), some (.int (ii (b + N))), some (.int (ii (q.2.2.2.1))), some (.int (ii (b + t + 1))), some (.int (ii kk))] [] (MM i0 i6 i8 i9 i10 i13 i14 i18 i19 i20 i21 j22 j23 j24 j25 dn lt u i42 (b + tk) q.2.2.2.1 q.1 i46 j47 j48 i51 i52 x1 K x3 x4 x5 x7 x11 x12 x15 x16 x17 y26 y29 y30 Z x32 x34 x35 x36 x37 x38 x39 x40 x41 y49 x50) 0 0 Q := by
  intro nn
  induction nn using Nat.strongRecOn with
  | ind nn ih =>
  intro n kk K Z u dn lt j22 j23 j24 j25 j47 j48 y26 y29 y30 y49 hn hk u0 u1 d0 d1 l0 l1 hsm xa xb hn_ h0_ hR
  have hh := ord_h hq
  have hTB := hTk.1
  have hh2 := hh
  unfold CXh at hh2
  rw [if_pos rfl] at hh2
  have htm := hh2.2
  have hhd4 : q.1 = 21 ∨ q.1 = 23 ∨ q.1 = 24 ∨ q.1 = 26 := by
    rcases hh2.1 with ⟨z, -⟩ | ⟨z, -⟩ | ⟨z, -⟩ <;> omega
  clear hh2
  refine j_iload d_Mod_runs_19 rfl ?_
  refine j_iload_n d_Mod_runs_21 rfl ?_
  refine z_icmp_ge (t := 73) d_Mod_runs_22 (by decide) (by first | omega | exact hw _ | exact hx _ _ | assumption) (by first | omega | exact hw _ | exact hx _ _ | assumption) (fun h22 => ?_) (fun h22 => ?_)
  · refine j_aload_n d_Mod_runs_73 rfl ?_
    refine j_iload_n d_Mod_runs_74 rfl ?_
    refine mp_orderAt f_Mod_470 d_Mod_runs_75 ?_
    refine z_iconst d_Mod_runs_78 ?_
    exact z_zreturn rfl (Or.inr rfl) d_Mod_runs_79 (hok (K, Z, u, dn, lt) (by rw [← hR, show n = 0 by omega]; rfl) hk ⟨u0, u1⟩ ⟨d0, by show dn ≤ D_; omega⟩ ⟨l0, l1⟩ (Hd.out hsm) _ _ _ _ _ _ _ _ _ _ xa xb)
  · obtain ⟨n, rfl⟩ : ∃ j, n = j + 1 := ⟨n - 1, by omega⟩
    refine j_aload_n d_Mod_runs_25 rfl ?_
    refine j_iload_n d_Mod_runs_26 rfl ?_
    refine z_iconst d_Mod_runs_27 ?_
    refine v_call2 d_Mod_runs_28 c_Mod_497 rfl ⟨_, rfl, rfl⟩ (Nat.le_of_ble_eq_true rfl) (t_Mod_goes (i23 := b + N) (live := 1) (C := C) (V := V) (b := b) (N := N) (tk := tk) (lv := lv) (t := t) (l := l) (q := q) hk.1.1.1 hk.1.1.2 hk.1.2.1 hk.2.1 (by omega) (by omega) (by rw [cdA_same (K := K0) (K' := K) (fun j hj => Hd.out hsm j (by omega)), vlA_same (K := K0) (K' := K) (fun j hj => Hd.out hsm j (by omega))]; exact hTk) (fun c k _ _ => ow_R hk.1 (by omega) (by omega) c k) hq k0 k1 v0 v1 rfl (by first | exact Or.inr rfl | exact Or.inl rfl) xa xb (fun w24 w47 w48 w49 w29 w30 hF h47 h48 hy0 hy1 => ?_))
    refine j_aload_n d_Mod_runs_31 rfl ?_
    refine mg_testIs f_Mod_488 d_Mod_runs_32 ?_
    refine z_if_ne (t := 41) d_Mod_runs_35 (by decide) (by first | omega | exact hw _ | exact hx _ _ | assumption) (fun h35 => ?_) (fun h35 => ?_)
    · have hte : tstV q (ow K dn lt) = some 1 := (hF rfl).1.mp (by omega)
      refine j_aload_n d_Mod_runs_41 rfl ?_
      refine mg_sumsAre f_Mod_482 d_Mod_runs_42 ?_
      refine z_if_eq (t := 55) d_Mod_runs_45 (by decide) (by first | omega | exact hw _ | exact hx _ _ | assumption) (fun h45 => ?_) (fun h45 => ?_)
      · have hbr : ¬ ((su1 q (ow K dn lt)).isSome = true ∧ (su2 q (ow K dn lt)).isSome = true) := fun z => by have := (hF rfl).2.1.mpr z; omega
        refine z_iconst d_Mod_runs_55 ?_
        first
        | exact z_zreturn rfl (Or.inl rfl) d_Mod_runs_56 (her (by rw [← hR, tmO_n (onO_br hte hbr)]) _ _ _ _ _ (Hd.out hsm) _ _ _ _ _ _ _ _ _ _ hy0 hy1)
        | exact z_zreturn rfl (Or.inl rfl) d_Mod_runs_56 (her (by rw [← hR, tmO_n (by rw [onO_ob hh hte hbr (hF rfl).2.2.1 (hF rfl).2.2.2, ho])]) _ _ _ _ _ (Hd.out hsm) _ _ _ _ _ _ _ _ _ _ hy0 hy1)
      · have hbr : (su1 q (ow K dn lt)).isSome = true ∧ (su2 q (ow K dn lt)).isSome = true := (hF rfl).2.1.mp (by omega)
        refine j_aload_n d_Mod_runs_48 rfl ?_
        refine v_call0 d_Mod_runs_49 c_Mod_501 rfl ⟨_, rfl, rfl⟩ (Nat.le_of_ble_eq_true rfl) (t_Mod_obeys hk u0 u1 hhd4 hy0 hy1 (fun ho r rr r0 e22 e23 e24 e25 z26 z29 z30 => ?_) (fun T ho r rr r0 e22 e23 e24 e25 z26 z29 z30 => ?_))
        · refine z_if_ge (t := 57) d_Mod_runs_52 (by decide) (by first | omega | exact hw _ | exact hx _ _ | assumption) (fun h52 => ?_) (fun h52 => ?_)
          · exfalso
            omega
          · refine z_iconst d_Mod_runs_55 ?_
            first
            | exact z_zreturn rfl (Or.inl rfl) d_Mod_runs_56 (her (by rw [← hR, tmO_n (onO_br hte hbr)]) _ _ _ _ _ (Hd.out hsm) _ _ _ _ _ _ _ _ _ _ hy0 hy1)
            | exact z_zreturn rfl (Or.inl rfl) d_Mod_runs_56 (her (by rw [← hR, tmO_n (by rw [onO_ob hh hte hbr (hF rfl).2.2.1 (hF rfl).2.2.2, ho])]) _ _ _ _ _ (Hd.out hsm) _ _ _ _ _ _ _ _ _ _ hy0 hy1)
        · refine z_if_ge (t := 57) d_Mod_runs_52 (by decide) (by first | omega | exact hw _ | exact hx _ _ | assumption) (fun h52 => ?_) (fun h52 => ?_)
          · refine j_aload_n d_Mod_runs_57 rfl ?_
            refine j_dup d_Mod_runs_58 rfl ?_
            refine mg_orderDone f_Mod_288 d_Mod_runs_59 ?_
            refine z_iconst d_Mod_runs_62 ?_
            refine z_iadd d_Mod_runs_63 ?_
            refine mp_orderDone f_Mod_288 d_Mod_runs_64 ?_
            refine z_iinc d_Mod_runs_67 rfl (by decide) ?_
            show SJ _ _ _ _ [_, _, _, _, _] _ _ _ _ _
            refine j_goto (t := 19) d_Mod_runs_70 (by decide) ?_
            have hob := obK_k hk ho
            have hob2 := obK_o hk ho
            have hon := onO_ob (S := (K, Z, u, dn, lt)) hh hte hbr (hF rfl).2.2.1 (hF rfl).2.2.2
            rw [ho] at hon
            have hon2 : onO q (K, Z, u, dn, lt) = some (T.1, T.2.1, T.2.2.1, T.2.2.2.1 + 1, T.2.2.2.2) := hon
            rw [tmO_s hon2, hob.2.2.2.1] at hR
            have hlt : -1 ≤ T.2.2.2.2 ∧ T.2.2.2.2 ≤ 99 := by
              rcases hob.2.2.2.2 with z | z
              · rw [z]; exact ⟨l0, l1⟩
              · omega
            have huu := hob.2.2.1 u0 u1
            refine ih _ (by omega) n (kk + 1) T.1 T.2.1 T.2.2.1 (dn + 1) T.2.2.2.2 _ _ _ _ _ _ _ _ _ _ rfl hob.1 huu.1 huu.2 (by omega) (by omega) hlt.1 hlt.2 (fun j hj => ?_) hy0 hy1 (by omega) (by omega) hR
            rcases hj with hj | hj
            · exact (hob2 j hj).trans (Hd.out hsm j (Or.inl hj))
            · exact (hob.2.1 j hj).trans (Hd.out hsm j (Or.inr hj))
          · exfalso
            omega
    · have hte : ¬ tstV q (ow K dn lt) = some 1 := fun z => by have := (hF rfl).1.mpr z; omega
      refine j_goto (t := 67) d_Mod_runs_38 (by decide) ?_
      refine z_iinc d_Mod_runs_67 rfl (by decide) ?_
      show SJ _ _ _ _ [_, _, _, _, _] _ _ _ _ _
      refine j_goto (t := 19) d_Mod_runs_70 (by decide) ?_
      rw [tmO_s (onO_no hte)] at hR
      exact ih _ (by omega) n (kk + 1) K Z u dn lt _ _ _ _ _ _ _ _ _ _ rfl hk u0 u1 d0 (by omega) l0 l1 hsm hy0 hy1 (by omega) (by omega) hR
