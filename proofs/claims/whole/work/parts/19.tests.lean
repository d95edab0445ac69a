theorem t_Mod_positiveOf {g : Bool} {d : Nat} {Q : List xM → Option Value → Prop} {i0 i6 i8 i9 i10 i13 i14 i18 i19 i20 i21 i22 i23 i24 i25 i27 i28 i33 i42 i43 i44 i45 i46 i47 i48 i51 i52 : Int} {x1 x2 x3 x4 x5 x7 x11 x12 x15 x16 x17 x26 x29 x30 x31 x32 x34 x35 x36 x37 x38 x39 x40 x41 x49 x50 : Int → Int} (hC : ∀ k, 0 ≤ k → k < 2800 → 0 ≤ x2 (33 + k) ∧ x2 (33 + k) ≤ 400) (e0 : 0 ≤ i23) (e1 : i23 ≤ 2800) {S_ T_ : Int → Int → Int → EV} (hS : ME g m_Mod_sumOf (d + 50) i0 i6 i8 i9 i10 i13 i14 i18 i19 i20 i21 i23 i25 i27 i28 i33 i42 i43 i44 i45 i46 i47 i48 i51 i52 x1 x2 x3 x4 x5 x7 x11 x12 x15 x16 x17 x26 x31 x32 x34 x35 x36 x37 x38 x39 x40 x41 x49 x50 S_) (hT : MB g m_Mod_testOf (d + 50) i0 i6 i8 i9 i10 i13 i14 i18 i19 i20 i21 i23 i25 i27 i28 i33 i42 i43 i44 i45 i46 i47 i48 i51 i52 x1 x2 x3 x4 x5 x7 x11 x12 x15 x16 x17 x26 x31 x32 x34 x35 x36 x37 x38 x39 x40 x41 x49 x50 T_) {live v go2 br2 : Int} (hl : live = 0 ∨ live = 1) (hb : i24 = 0 ∨ i24 = 1) (hF : poE (cdA x2 i23) S_ T_ live i22 i24 = some (v, go2, br2)) (hQ : ∀ y29 y30, Q (MM i0 i6 i8 i9 i10 i13 i14 i18 i19 i20 i21 go2 i23 br2 i25 i27 i28 i33 i42 i43 i44 i45 i46 i47 i48 i51 i52 x1 x2 x3 x4 x5 x7 x11 x12 x15 x16 x17 x26 y29 y30 x31 x32 x34 x35 x36 x37 x38 x39 x40 x41 x49 x50) (some (.int (ii v))))  : CT g m_Mod_positiveOf (d + 51) [.ref 0, .int (ii live)] (MM i0 i6 i8 i9 i10 i13 i14 i18 i19 i20 i21 i22 i23 i24 i25 i27 i28 i33 i42 i43 i44 i45 i46 i47 i48 i51 i52 x1 x2 x3 x4 x5 x7 x11 x12 x15 x16 x17 x26 x29 x30 x31 x32 x34 x35 x36 x37 x38 x39 x40 x41 x49 x50) 0 0 Q := by
  refine CT.of (by decide) (Nat.le_of_ble_eq_true rfl) ?_
  show SJ _ _ _ _ [some (.ref 0), some (.int (ii live)), none, none, none, none, none] [] _ _ _ _
  obtain ⟨g0, g1, hA, hB⟩ := poE_inv hF
  have hcr := cdA_R hC e1 g0
  refine j_aload_n d_Mod_positiveOf_0 rfl ?_
  refine z_bipush d_Mod_positiveOf_1 (by decide) ?_
  refine s_call1 d_Mod_positiveOf_3 c_Mod_208 (Nat.le_of_ble_eq_true rfl) (t_Mod_sign  ?_)
  refine v_call1 d_Mod_positiveOf_6 c_Mod_273 rfl ⟨_, rfl, rfl⟩ (Nat.le_of_ble_eq_true rfl) (t_Mod_passes0 hC e0 e1 (by omega) (by omega) (by omega) (fun h6 => ?_) (fun h6 => ?_))
  · refine z_if_eq (t := 30) d_Mod_positiveOf_9 (by decide) (by first | omega | exact hw _ | exact hx _ _ | assumption) (fun h => absurd h (by decide)) (fun _ => ?_)
    obtain ⟨ww, gg, bb, hT2, hg2, hw2, hb2, rfl, rfl, rfl⟩ := Hd.out hA (by omega)
    refine j_aload_n d_Mod_positiveOf_12 rfl ?_
    refine j_iload_n d_Mod_positiveOf_13 rfl ?_
    refine v_call1 d_Mod_positiveOf_14 c_Mod_306 rfl ⟨_, rfl, rfl⟩ (Nat.le_of_ble_eq_true rfl) (hT live (i22 + 1) i24 _ _ _ _ _ _ hT2 hl hb (fun y29 y30 => ?_))
    refine j_istore_n d_Mod_positiveOf_17 (by decide) ?_
    show SJ _ _ _ _ [_, _, _, _, _, _, _] _ _ _ _ _
    refine j_aload_n d_Mod_positiveOf_18 rfl ?_
    refine j_dup d_Mod_positiveOf_19 rfl ?_
    refine mg_go f_Mod_249 d_Mod_positiveOf_20 ?_
    refine z_iconst d_Mod_positiveOf_23 ?_
    refine z_iadd d_Mod_positiveOf_24 ?_
    refine mp_go f_Mod_249 d_Mod_positiveOf_25 ?_
    refine j_iload_n d_Mod_positiveOf_28 rfl ?_
    exact z_zreturn rfl (by first | exact hw2 | omega) d_Mod_positiveOf_29 (hQ _ _)
  · refine z_if_eq (t := 30) d_Mod_positiveOf_9 (by decide) (by first | omega | exact hw _ | exact hx _ _ | assumption) (fun _ => ?_) (fun h => absurd h (by decide))
    obtain ⟨aa1, aa2, aa3, cc1, cc2, cc3, hS1, hg2, ra1, ba1, hS2, rc1, bc1, hv, rfl, rfl⟩ := Hd.out hB (by omega)
    have hcr2 := cdA_R (k := aa2) hC e1 (by omega)
    refine j_aload_n d_Mod_positiveOf_30 rfl ?_
    refine j_iload_n d_Mod_positiveOf_31 rfl ?_
    refine v_call1 d_Mod_positiveOf_32 c_Mod_276 rfl ⟨_, rfl, rfl⟩ (Nat.le_of_ble_eq_true rfl) (hS live i22 i24 _ _ _ _ _ _ hS1 hl hb (fun y29 y30 => ?_))
    refine j_lstore_n d_Mod_positiveOf_35 (by decide) ?_
    show SJ _ _ _ _ [_, _, _, _, _, _, _] _ _ _ _ _
    refine j_aload_n d_Mod_positiveOf_36 rfl ?_
    refine j_aload_n d_Mod_positiveOf_37 rfl ?_
    refine mg_go f_Mod_249 d_Mod_positiveOf_38 ?_
    refine v_call1 d_Mod_positiveOf_41 c_Mod_252 rfl ⟨_, rfl, rfl⟩ (Nat.le_of_ble_eq_true rfl) (t_Mod_codeAt hC e0 e1 (by omega) (by omega) ?_)
    refine j_istore d_Mod_positiveOf_44 (by decide) ?_
    show SJ _ _ _ _ [_, _, _, _, _, _, _] _ _ _ _ _
    refine j_aload_n d_Mod_positiveOf_46 rfl ?_
    refine j_dup d_Mod_positiveOf_47 rfl ?_
    refine mg_go f_Mod_249 d_Mod_positiveOf_48 ?_
    refine z_iconst d_Mod_positiveOf_51 ?_
    refine z_iadd d_Mod_positiveOf_52 ?_
    refine mp_go f_Mod_249 d_Mod_positiveOf_53 ?_
    refine j_aload_n d_Mod_positiveOf_56 rfl ?_
    refine j_iload_n d_Mod_positiveOf_57 rfl ?_
    refine v_call1 d_Mod_positiveOf_58 c_Mod_276 rfl ⟨_, rfl, rfl⟩ (Nat.le_of_ble_eq_true rfl) (hS live (aa2 + 1) aa3 _ _ _ _ _ _ hS2 hl ba1 (fun y29 y30 => ?_))
    refine j_lstore d_Mod_positiveOf_61 (by decide) ?_
    show SJ _ _ _ _ [_, _, _, _, _, _, _] _ _ _ _ _
    refine j_iload_n d_Mod_positiveOf_63 rfl ?_
    refine z_if_eq (t := 125) d_Mod_positiveOf_64 (by decide) (by first | omega | exact hw _ | exact hx _ _ | assumption) (fun h64 => ?_) (fun h64 => ?_)
    · refine z_iconst d_Mod_positiveOf_125 ?_
      exact z_zretE rfl (Or.inl rfl) d_Mod_positiveOf_126 (by rw [hv, if_neg (by omega)]) (hQ _ _)
    · refine j_aload_n d_Mod_positiveOf_67 rfl ?_
      refine mg_broken f_Mod_259 d_Mod_positiveOf_68 ?_
      refine z_if_ne (t := 125) d_Mod_positiveOf_71 (by decide) (by first | omega | exact hw _ | exact hx _ _ | assumption) (fun h71 => ?_) (fun h71 => ?_)
      · refine z_iconst d_Mod_positiveOf_125 ?_
        exact z_zretE rfl (Or.inl rfl) d_Mod_positiveOf_126 (by rw [hv, if_neg (by omega)]) (hQ _ _)
      · refine j_iload d_Mod_positiveOf_74 rfl ?_
        refine z_bipush d_Mod_positiveOf_76 (by decide) ?_
        refine s_call1 d_Mod_positiveOf_78 c_Mod_208 (Nat.le_of_ble_eq_true rfl) (t_Mod_sign  ?_)
        refine z_icmp_ne (t := 94) d_Mod_positiveOf_81 (by decide) (by first | omega | exact hw _ | exact hx _ _ | assumption) (by first | omega | exact hw _ | exact hx _ _ | assumption) (fun h81 => ?_) (fun h81 => ?_)
        · refine j_iload d_Mod_positiveOf_94 rfl ?_
          refine z_bipush d_Mod_positiveOf_96 (by decide) ?_
          refine s_call1 d_Mod_positiveOf_98 c_Mod_208 (Nat.le_of_ble_eq_true rfl) (t_Mod_sign  ?_)
          refine z_icmp_ne (t := 114) d_Mod_positiveOf_101 (by decide) (by first | omega | exact hw _ | exact hx _ _ | assumption) (by first | omega | exact hw _ | exact hx _ _ | assumption) (fun h101 => ?_) (fun h101 => ?_)
          · refine j_lload_n d_Mod_positiveOf_114 rfl ?_
            refine j_lload d_Mod_positiveOf_115 rfl ?_
            refine z_lcmp_ne (t := 125) d_Mod_positiveOf_117 d_Mod_positiveOf_118 (by decide) (by first | omega | exact hw _ | exact hx _ _ | assumption) (by first | omega | exact hw _ | exact hx _ _ | assumption) (fun h117 => ?_) (fun h117 => ?_)
            · refine z_iconst d_Mod_positiveOf_125 ?_
              exact z_zretE rfl (Or.inl rfl) d_Mod_positiveOf_126 (by rw [hv, if_neg (by omega)]) (hQ _ _)
            · refine z_iconst d_Mod_positiveOf_121 ?_
              refine j_goto (t := 126) d_Mod_positiveOf_122 (by decide) ?_
              exact z_zretE rfl (Or.inr rfl) d_Mod_positiveOf_126 (by rw [hv, if_pos (by omega)]) (hQ _ _)
          · refine j_lload_n d_Mod_positiveOf_104 rfl ?_
            refine j_lload d_Mod_positiveOf_105 rfl ?_
            refine z_lcmp_le (t := 125) d_Mod_positiveOf_107 d_Mod_positiveOf_108 (by decide) (by first | omega | exact hw _ | exact hx _ _ | assumption) (by first | omega | exact hw _ | exact hx _ _ | assumption) (fun h107 => ?_) (fun h107 => ?_)
            · refine z_iconst d_Mod_positiveOf_125 ?_
              exact z_zretE rfl (Or.inl rfl) d_Mod_positiveOf_126 (by rw [hv, if_neg (by omega)]) (hQ _ _)
            · refine j_goto (t := 121) d_Mod_positiveOf_111 (by decide) ?_
              refine z_iconst d_Mod_positiveOf_121 ?_
              refine j_goto (t := 126) d_Mod_positiveOf_122 (by decide) ?_
              exact z_zretE rfl (Or.inr rfl) d_Mod_positiveOf_126 (by rw [hv, if_pos (by omega)]) (hQ _ _)
        · refine j_lload_n d_Mod_positiveOf_84 rfl ?_
          refine j_lload d_Mod_positiveOf_85 rfl ?_
          refine z_lcmp_ge (t := 125) d_Mod_positiveOf_87 d_Mod_positiveOf_88 (by decide) (by first | omega | exact hw _ | exact hx _ _ | assumption) (by first | omega | exact hw _ | exact hx _ _ | assumption) (fun h87 => ?_) (fun h87 => ?_)
          · refine z_iconst d_Mod_positiveOf_125 ?_
            exact z_zretE rfl (Or.inl rfl) d_Mod_positiveOf_126 (by rw [hv, if_neg (by omega)]) (hQ _ _)
          · refine j_goto (t := 121) d_Mod_positiveOf_91 (by decide) ?_
            refine z_iconst d_Mod_positiveOf_121 ?_
            refine j_goto (t := 126) d_Mod_positiveOf_122 (by decide) ?_
            exact z_zretE rfl (Or.inr rfl) d_Mod_positiveOf_126 (by rw [hv, if_pos (by omega)]) (hQ _ _)
theorem lp_plainOf {g : Bool} {d : Nat} {Q : List xM → Option Value → Prop} {i0 i6 i8 i9 i10 i13 i14 i18 i19 i20 i21 i23 i24 i25 i27 i28 i33 i42 i43 i44 i45 i46 i47 i48 i51 i52 : Int} {x1 x2 x3 x4 x5 x7 x11 x12 x15 x16 x17 x26 x29 x30 x31 x32 x34 x35 x36 x37 x38 x39 x40 x41 x49 x50 : Int → Int} (hC : ∀ k, 0 ≤ k → k < 2800 → 0 ≤ x2 (33 + k) ∧ x2 (33 + k) ≤ 400) (e0 : 0 ≤ i23) (e1 : i23 ≤ 2800) {P : Int → Int → Int → EV} (hP : MB g m_Mod_positiveOf (d + 51) i0 i6 i8 i9 i10 i13 i14 i18 i19 i20 i21 i23 i25 i27 i28 i33 i42 i43 i44 i45 i46 i47 i48 i51 i52 x1 x2 x3 x4 x5 x7 x11 x12 x15 x16 x17 x26 x31 x32 x34 x35 x36 x37 x38 x39 x40 x41 x49 x50 P) {live v go2 br2 : Int} (hl : live = 0 ∨ live = 1) (hb : i24 = 0 ∨ i24 = 1) (hQ : ∀ y29 y30, Q (MM i0 i6 i8 i9 i10 i13 i14 i18 i19 i20 i21 go2 i23 br2 i25 i27 i28 i33 i42 i43 i44 i45 i46 i47 i48 i51 i52 x1 x2 x3 x4 x5 x7 x11 x12 x15 x16 x17 x26 y29 y30 x31 x32 x34 x35 x36 x37 x38 x39 x40 x41 x49 x50) (some (.int (ii v))))  : ∀ (nn : Nat) (k : Nat) (neg : Int) (go : Int), ((k : Int)).toNat = nn → (neg = 0 ∨ neg = 1) → plL (cdA x2 i23) P live i24 k neg go = some (v, go2, br2) → SJ g m_Mod_plainOf (d + 52) 2 [some (.ref 0), some (.int (ii live)), some (.int (ii neg))] [] (MM i0 i6 i8 i9 i10 i13 i14 i18 i19 i20 i21 go i23 i24 i25 i27 i28 i33 i42 i43 i44 i45 i46 i47 i48 i51 i52 x1 x2 x3 x4 x5 x7 x11 x12 x15 x16 x17 x26 x29 x30 x31 x32 x34 x35 x36 x37 x38 x39 x40 x41 x49 x50) 0 0 Q := by
  intro nn
  induction nn using Nat.strongRecOn with
  | ind nn ih =>
  intro k neg go hn hng hF
  obtain ⟨j, rfl, g0, g1, hcase⟩ := plL_inv hF
  have hcr := cdA_R hC e1 g0
  refine j_aload_n d_Mod_plainOf_2 rfl ?_
  refine z_bipush d_Mod_plainOf_3 (by decide) ?_
  refine v_call1 d_Mod_plainOf_5 c_Mod_273 rfl ⟨_, rfl, rfl⟩ (Nat.le_of_ble_eq_true rfl) (t_Mod_passes0 hC e0 e1 (by omega) (by omega) (by omega) (fun h5 => ?_) (fun h5 => ?_))
  · refine z_if_eq (t := 24) d_Mod_plainOf_8 (by decide) (by first | omega | exact hw _ | exact hx _ _ | assumption) (fun h => absurd h (by decide)) (fun _ => ?_)
    obtain ⟨hop, hL2⟩ := (Hd.out hcase).resolve_right (fun q => q.1 (by omega))
    refine j_iload_n d_Mod_plainOf_11 rfl ?_
    refine z_if_ne (t := 19) d_Mod_plainOf_12 (by decide) (by first | omega | exact hw _ | exact hx _ _ | assumption) (fun h12 => ?_) (fun h12 => ?_)
    · refine z_iconst d_Mod_plainOf_19 ?_
      have hng2 : 1 - neg = 0 := by omega
      rw [hng2] at hL2
      refine j_istore_n d_Mod_plainOf_20 (by decide) ?_
      show SJ _ _ _ _ [_, _, _] _ _ _ _ _
      refine j_goto (t := 2) d_Mod_plainOf_21 (by decide) ?_
      exact ih _ (by omega) _ _ _ rfl (by omega) hL2
    · refine z_iconst d_Mod_plainOf_15 ?_
      refine j_goto (t := 20) d_Mod_plainOf_16 (by decide) ?_
      have hng2 : 1 - neg = 1 := by omega
      rw [hng2] at hL2
      refine j_istore_n d_Mod_plainOf_20 (by decide) ?_
      show SJ _ _ _ _ [_, _, _] _ _ _ _ _
      refine j_goto (t := 2) d_Mod_plainOf_21 (by decide) ?_
      exact ih _ (by omega) _ _ _ rfl (by omega) hL2
  · refine z_if_eq (t := 24) d_Mod_plainOf_8 (by decide) (by first | omega | exact hw _ | exact hx _ _ | assumption) (fun _ => ?_) (fun h => absurd h (by decide))
    obtain ⟨hno, ww, gg, bb, hP2, hw2, hb2, hv, rfl, rfl⟩ := (Hd.out hcase).resolve_left (fun q => absurd q.1 (by omega))
    refine j_aload_n d_Mod_plainOf_24 rfl ?_
    refine j_iload_n d_Mod_plainOf_25 rfl ?_
    refine v_call1 d_Mod_plainOf_26 c_Mod_303 rfl ⟨_, rfl, rfl⟩ (Nat.le_of_ble_eq_true rfl) (hP live go i24 _ _ _ _ _ _ hP2 hl hb (fun y29 y30 => ?_))
    refine j_iload_n d_Mod_plainOf_29 rfl ?_
    refine z_icmp_eq (t := 37) d_Mod_plainOf_30 (by decide) (by first | omega | exact hw _ | exact hx _ _ | assumption) (by first | omega | exact hw _ | exact hx _ _ | assumption) (fun h30 => ?_) (fun h30 => ?_)
    · refine z_iconst d_Mod_plainOf_37 ?_
      exact z_zretE rfl (Or.inl rfl) d_Mod_plainOf_38 (by rw [hv, if_pos (by omega)]) (hQ _ _)
    · refine z_iconst d_Mod_plainOf_33 ?_
      refine j_goto (t := 38) d_Mod_plainOf_34 (by decide) ?_
      exact z_zretE rfl (Or.inr rfl) d_Mod_plainOf_38 (by rw [hv, if_neg (by omega)]) (hQ _ _)
theorem t_Mod_plainOf {g : Bool} {d : Nat} {Q : List xM → Option Value → Prop} {i0 i6 i8 i9 i10 i13 i14 i18 i19 i20 i21 i22 i23 i24 i25 i27 i28 i33 i42 i43 i44 i45 i46 i47 i48 i51 i52 : Int} {x1 x2 x3 x4 x5 x7 x11 x12 x15 x16 x17 x26 x29 x30 x31 x32 x34 x35 x36 x37 x38 x39 x40 x41 x49 x50 : Int → Int} (hC : ∀ k, 0 ≤ k → k < 2800 → 0 ≤ x2 (33 + k) ∧ x2 (33 + k) ≤ 400) (e0 : 0 ≤ i23) (e1 : i23 ≤ 2800) {P : Int → Int → Int → EV} (hP : MB g m_Mod_positiveOf (d + 51) i0 i6 i8 i9 i10 i13 i14 i18 i19 i20 i21 i23 i25 i27 i28 i33 i42 i43 i44 i45 i46 i47 i48 i51 i52 x1 x2 x3 x4 x5 x7 x11 x12 x15 x16 x17 x26 x31 x32 x34 x35 x36 x37 x38 x39 x40 x41 x49 x50 P) {live v go2 br2 : Int} (hl : live = 0 ∨ live = 1) (hb : i24 = 0 ∨ i24 = 1) (hF : plV (cdA x2 i23) P live i22 i24 = some (v, go2, br2)) (hQ : ∀ y29 y30, Q (MM i0 i6 i8 i9 i10 i13 i14 i18 i19 i20 i21 go2 i23 br2 i25 i27 i28 i33 i42 i43 i44 i45 i46 i47 i48 i51 i52 x1 x2 x3 x4 x5 x7 x11 x12 x15 x16 x17 x26 y29 y30 x31 x32 x34 x35 x36 x37 x38 x39 x40 x41 x49 x50) (some (.int (ii v))))  : CT g m_Mod_plainOf (d + 52) [.ref 0, .int (ii live)] (MM i0 i6 i8 i9 i10 i13 i14 i18 i19 i20 i21 i22 i23 i24 i25 i27 i28 i33 i42 i43 i44 i45 i46 i47 i48 i51 i52 x1 x2 x3 x4 x5 x7 x11 x12 x15 x16 x17 x26 x29 x30 x31 x32 x34 x35 x36 x37 x38 x39 x40 x41 x49 x50) 0 0 Q := by
  refine CT.of (by decide) (Nat.le_of_ble_eq_true rfl) ?_
  show SJ _ _ _ _ [some (.ref 0), some (.int (ii live)), none] [] _ _ _ _
  refine z_iconst d_Mod_plainOf_0 ?_
  refine j_istore_n d_Mod_plainOf_1 (by decide) ?_
  show SJ _ _ _ _ [_, _, _] _ _ _ _ _
  exact lp_plainOf hC e0 e1 hP hl hb hQ _ 400 0 _ rfl (by omega) hF
theorem lp_bothOf {g : Bool} {d : Nat} {Q : List xM → Option Value → Prop} {i0 i6 i8 i9 i10 i13 i14 i18 i19 i20 i21 i23 i25 i27 i28 i33 i42 i43 i44 i45 i46 i47 i48 i51 i52 : Int} {x1 x2 x3 x4 x5 x7 x11 x12 x15 x16 x17 x26 x31 x32 x34 x35 x36 x37 x38 x39 x40 x41 x49 x50 : Int → Int} (hC : ∀ k, 0 ≤ k → k < 2800 → 0 ≤ x2 (33 + k) ∧ x2 (33 + k) ≤ 400) (e0 : 0 ≤ i23) (e1 : i23 ≤ 2800) {P : Int → Int → Int → EV} (hP : MB g m_Mod_plainOf (d + 52) i0 i6 i8 i9 i10 i13 i14 i18 i19 i20 i21 i23 i25 i27 i28 i33 i42 i43 i44 i45 i46 i47 i48 i51 i52 x1 x2 x3 x4 x5 x7 x11 x12 x15 x16 x17 x26 x31 x32 x34 x35 x36 x37 x38 x39 x40 x41 x49 x50 P) {live v go2 br2 : Int} (hl : live = 0 ∨ live = 1) (hQ : ∀ y29 y30, Q (MM i0 i6 i8 i9 i10 i13 i14 i18 i19 i20 i21 go2 i23 br2 i25 i27 i28 i33 i42 i43 i44 i45 i46 i47 i48 i51 i52 x1 x2 x3 x4 x5 x7 x11 x12 x15 x16 x17 x26 y29 y30 x31 x32 x34 x35 x36 x37 x38 x39 x40 x41 x49 x50) (some (.int (ii v))))  : ∀ (nn : Nat) (k : Nat) (xx : Int) (go : Int) (br : Int) (z29 : Int → Int) (z30 : Int → Int), ((k : Int)).toNat = nn → (xx = 0 ∨ xx = 1) → (br = 0 ∨ br = 1) → boL (cdA x2 i23) P live k xx go br = some (v, go2, br2) → SJ g m_Mod_bothOf (d + 53) 6 [some (.ref 0), some (.int (ii live)), some (.int (ii xx)), none] [] (MM i0 i6 i8 i9 i10 i13 i14 i18 i19 i20 i21 go i23 br i25 i27 i28 i33 i42 i43 i44 i45 i46 i47 i48 i51 i52 x1 x2 x3 x4 x5 x7 x11 x12 x15 x16 x17 x26 z29 z30 x31 x32 x34 x35 x36 x37 x38 x39 x40 x41 x49 x50) 0 0 Q := by
  intro nn
  induction nn using Nat.strongRecOn with
  | ind nn ih =>
  intro k xx go br z29 z30 hn hx1 hb hF
  obtain ⟨j, rfl, g0, g1, hcase⟩ := boL_inv hF
  have hcr := cdA_R hC e1 g0
  refine j_aload_n d_Mod_bothOf_6 rfl ?_
  refine z_bipush d_Mod_bothOf_7 (by decide) ?_
  refine v_call1 d_Mod_bothOf_9 c_Mod_273 rfl ⟨_, rfl, rfl⟩ (Nat.le_of_ble_eq_true rfl) (t_Mod_passes0 hC e0 e1 (by omega) (by omega) (by omega) (fun h9 => ?_) (fun h9 => ?_))
  · refine z_if_eq (t := 50) d_Mod_bothOf_12 (by decide) (by first | omega | exact hw _ | exact hx _ _ | assumption) (fun h => absurd h (by decide)) (fun _ => ?_)
    obtain ⟨hop, ww, gg, bb, hP2, hw2, hb2, hL2⟩ := (Hd.out hcase).resolve_right (fun q => q.1 (by omega))
    refine j_aload_n d_Mod_bothOf_15 rfl ?_
    refine j_iload_n d_Mod_bothOf_16 rfl ?_
    refine z_if_eq (t := 28) d_Mod_bothOf_17 (by decide) (by first | omega | exact hw _ | exact hx _ _ | assumption) (fun h17 => ?_) (fun h17 => ?_)
    · refine z_iconst d_Mod_bothOf_28 ?_
      rw [if_neg (show ¬ (live = 1 ∧ xx = 1) by omega)] at hP2
      refine v_call1 d_Mod_bothOf_29 c_Mod_300 rfl ⟨_, rfl, rfl⟩ (Nat.le_of_ble_eq_true rfl) (hP _ (go + 1) br _ _ _ _ _ _ hP2 (by first | exact Or.inl rfl | exact Or.inr rfl) hb (fun y29 y30 => ?_))
      refine j_istore_n d_Mod_bothOf_32 (by decide) ?_
      show SJ _ _ _ _ [_, _, _, _] _ _ _ _ _
      refine j_iload_n d_Mod_bothOf_33 rfl ?_
      refine z_if_eq (t := 45) d_Mod_bothOf_34 (by decide) (by first | omega | exact hw _ | exact hx _ _ | assumption) (fun h34 => ?_) (fun h34 => ?_)
      · refine z_iconst d_Mod_bothOf_45 ?_
        rw [if_neg (show ¬ (xx = 1 ∧ ww = 1) by omega)] at hL2
        refine j_istore_n d_Mod_bothOf_46 (by decide) ?_
        show SJ _ _ _ _ [_, _, _, _] _ _ _ _ _
        refine j_goto (t := 6) d_Mod_bothOf_47 (by decide) ?_
        refine SJ.mask [true, true, true, false] ?_
        show SJ _ _ _ _ [_, _, _, none] _ _ _ _ _
        exact ih _ (by omega) _ _ _ _ _ _ rfl (by first | exact Or.inl rfl | exact Or.inr rfl) hb2 hL2
      · refine j_iload_n d_Mod_bothOf_37 rfl ?_
        refine z_if_eq (t := 45) d_Mod_bothOf_38 (by decide) (by first | omega | exact hw _ | exact hx _ _ | assumption) (fun h38 => ?_) (fun h38 => ?_)
        · refine z_iconst d_Mod_bothOf_45 ?_
          rw [if_neg (show ¬ (xx = 1 ∧ ww = 1) by omega)] at hL2
          refine j_istore_n d_Mod_bothOf_46 (by decide) ?_
          show SJ _ _ _ _ [_, _, _, _] _ _ _ _ _
          refine j_goto (t := 6) d_Mod_bothOf_47 (by decide) ?_
          refine SJ.mask [true, true, true, false] ?_
          show SJ _ _ _ _ [_, _, _, none] _ _ _ _ _
          exact ih _ (by omega) _ _ _ _ _ _ rfl (by first | exact Or.inl rfl | exact Or.inr rfl) hb2 hL2
        · refine z_iconst d_Mod_bothOf_41 ?_
          refine j_goto (t := 46) d_Mod_bothOf_42 (by decide) ?_
          rw [if_pos (show xx = 1 ∧ ww = 1 by omega)] at hL2
          refine j_istore_n d_Mod_bothOf_46 (by decide) ?_
          show SJ _ _ _ _ [_, _, _, _] _ _ _ _ _
          refine j_goto (t := 6) d_Mod_bothOf_47 (by decide) ?_
          refine SJ.mask [true, true, true, false] ?_
          show SJ _ _ _ _ [_, _, _, none] _ _ _ _ _
          exact ih _ (by omega) _ _ _ _ _ _ rfl (by first | exact Or.inl rfl | exact Or.inr rfl) hb2 hL2
    · refine j_iload_n d_Mod_bothOf_20 rfl ?_
      refine z_if_eq (t := 28) d_Mod_bothOf_21 (by decide) (by first | omega | exact hw _ | exact hx _ _ | assumption) (fun h21 => ?_) (fun h21 => ?_)
      · refine z_iconst d_Mod_bothOf_28 ?_
        rw [if_neg (show ¬ (live = 1 ∧ xx = 1) by omega)] at hP2
        refine v_call1 d_Mod_bothOf_29 c_Mod_300 rfl ⟨_, rfl, rfl⟩ (Nat.le_of_ble_eq_true rfl) (hP _ (go + 1) br _ _ _ _ _ _ hP2 (by first | exact Or.inl rfl | exact Or.inr rfl) hb (fun y29 y30 => ?_))
        refine j_istore_n d_Mod_bothOf_32 (by decide) ?_
        show SJ _ _ _ _ [_, _, _, _] _ _ _ _ _
        refine j_iload_n d_Mod_bothOf_33 rfl ?_
        refine z_if_eq (t := 45) d_Mod_bothOf_34 (by decide) (by first | omega | exact hw _ | exact hx _ _ | assumption) (fun h34 => ?_) (fun h34 => ?_)
        · refine z_iconst d_Mod_bothOf_45 ?_
          rw [if_neg (show ¬ (xx = 1 ∧ ww = 1) by omega)] at hL2
          refine j_istore_n d_Mod_bothOf_46 (by decide) ?_
          show SJ _ _ _ _ [_, _, _, _] _ _ _ _ _
          refine j_goto (t := 6) d_Mod_bothOf_47 (by decide) ?_
          refine SJ.mask [true, true, true, false] ?_
          show SJ _ _ _ _ [_, _, _, none] _ _ _ _ _
          exact ih _ (by omega) _ _ _ _ _ _ rfl (by first | exact Or.inl rfl | exact Or.inr rfl) hb2 hL2
        · refine j_iload_n d_Mod_bothOf_37 rfl ?_
          refine z_if_eq (t := 45) d_Mod_bothOf_38 (by decide) (by first | omega | exact hw _ | exact hx _ _ | assumption) (fun h38 => ?_) (fun h38 => ?_)
          · refine z_iconst d_Mod_bothOf_45 ?_
            rw [if_neg (show ¬ (xx = 1 ∧ ww = 1) by omega)] at hL2
            refine j_istore_n d_Mod_bothOf_46 (by decide) ?_
            show SJ _ _ _ _ [_, _, _, _] _ _ _ _ _
            refine j_goto (t := 6) d_Mod_bothOf_47 (by decide) ?_
            refine SJ.mask [true, true, true, false] ?_
            show SJ _ _ _ _ [_, _, _, none] _ _ _ _ _
            exact ih _ (by omega) _ _ _ _ _ _ rfl (by first | exact Or.inl rfl | exact Or.inr rfl) hb2 hL2
          · refine z_iconst d_Mod_bothOf_41 ?_
            refine j_goto (t := 46) d_Mod_bothOf_42 (by decide) ?_
            rw [if_pos (show xx = 1 ∧ ww = 1 by omega)] at hL2
            refine j_istore_n d_Mod_bothOf_46 (by decide) ?_
            show SJ _ _ _ _ [_, _, _, _] _ _ _ _ _
            refine j_goto (t := 6) d_Mod_bothOf_47 (by decide) ?_
            refine SJ.mask [true, true, true, false] ?_
            show SJ _ _ _ _ [_, _, _, none] _ _ _ _ _
            exact ih _ (by omega) _ _ _ _ _ _ rfl (by first | exact Or.inl rfl | exact Or.inr rfl) hb2 hL2
      · refine z_iconst d_Mod_bothOf_24 ?_
        refine j_goto (t := 29) d_Mod_bothOf_25 (by decide) ?_
        rw [if_pos (show live = 1 ∧ xx = 1 by omega)] at hP2
        refine v_call1 d_Mod_bothOf_29 c_Mod_300 rfl ⟨_, rfl, rfl⟩ (Nat.le_of_ble_eq_true rfl) (hP _ (go + 1) br _ _ _ _ _ _ hP2 (by first | exact Or.inl rfl | exact Or.inr rfl) hb (fun y29 y30 => ?_))
        refine j_istore_n d_Mod_bothOf_32 (by decide) ?_
        show SJ _ _ _ _ [_, _, _, _] _ _ _ _ _
        refine j_iload_n d_Mod_bothOf_33 rfl ?_
        refine z_if_eq (t := 45) d_Mod_bothOf_34 (by decide) (by first | omega | exact hw _ | exact hx _ _ | assumption) (fun h34 => ?_) (fun h34 => ?_)
        · refine z_iconst d_Mod_bothOf_45 ?_
          rw [if_neg (show ¬ (xx = 1 ∧ ww = 1) by omega)] at hL2
          refine j_istore_n d_Mod_bothOf_46 (by decide) ?_
          show SJ _ _ _ _ [_, _, _, _] _ _ _ _ _
          refine j_goto (t := 6) d_Mod_bothOf_47 (by decide) ?_
          refine SJ.mask [true, true, true, false] ?_
          show SJ _ _ _ _ [_, _, _, none] _ _ _ _ _
          exact ih _ (by omega) _ _ _ _ _ _ rfl (by first | exact Or.inl rfl | exact Or.inr rfl) hb2 hL2
        · refine j_iload_n d_Mod_bothOf_37 rfl ?_
          refine z_if_eq (t := 45) d_Mod_bothOf_38 (by decide) (by first | omega | exact hw _ | exact hx _ _ | assumption) (fun h38 => ?_) (fun h38 => ?_)
          · refine z_iconst d_Mod_bothOf_45 ?_
            rw [if_neg (show ¬ (xx = 1 ∧ ww = 1) by omega)] at hL2
            refine j_istore_n d_Mod_bothOf_46 (by decide) ?_
            show SJ _ _ _ _ [_, _, _, _] _ _ _ _ _
            refine j_goto (t := 6) d_Mod_bothOf_47 (by decide) ?_
            refine SJ.mask [true, true, true, false] ?_
            show SJ _ _ _ _ [_, _, _, none] _ _ _ _ _
            exact ih _ (by omega) _ _ _ _ _ _ rfl (by first | exact Or.inl rfl | exact Or.inr rfl) hb2 hL2
          · refine z_iconst d_Mod_bothOf_41 ?_
            refine j_goto (t := 46) d_Mod_bothOf_42 (by decide) ?_
            rw [if_pos (show xx = 1 ∧ ww = 1 by omega)] at hL2
            refine j_istore_n d_Mod_bothOf_46 (by decide) ?_
            show SJ _ _ _ _ [_, _, _, _] _ _ _ _ _
            refine j_goto (t := 6) d_Mod_bothOf_47 (by decide) ?_
            refine SJ.mask [true, true, true, false] ?_
            show SJ _ _ _ _ [_, _, _, none] _ _ _ _ _
            exact ih _ (by omega) _ _ _ _ _ _ rfl (by first | exact Or.inl rfl | exact Or.inr rfl) hb2 hL2
  · refine z_if_eq (t := 50) d_Mod_bothOf_12 (by decide) (by first | omega | exact hw _ | exact hx _ _ | assumption) (fun _ => ?_) (fun h => absurd h (by decide))
    obtain ⟨hno, rfl, rfl, rfl⟩ := (Hd.out hcase).resolve_left (fun q => absurd q.1 (by omega))
    refine j_iload_n d_Mod_bothOf_50 rfl ?_
    exact z_zreturn rfl (by first | exact hx1 | omega) d_Mod_bothOf_51 (hQ _ _)
theorem t_Mod_bothOf {g : Bool} {d : Nat} {Q : List xM → Option Value → Prop} {i0 i6 i8 i9 i10 i13 i14 i18 i19 i20 i21 i22 i23 i24 i25 i27 i28 i33 i42 i43 i44 i45 i46 i47 i48 i51 i52 : Int} {x1 x2 x3 x4 x5 x7 x11 x12 x15 x16 x17 x26 x29 x30 x31 x32 x34 x35 x36 x37 x38 x39 x40 x41 x49 x50 : Int → Int} (hC : ∀ k, 0 ≤ k → k < 2800 → 0 ≤ x2 (33 + k) ∧ x2 (33 + k) ≤ 400) (e0 : 0 ≤ i23) (e1 : i23 ≤ 2800) {P : Int → Int → Int → EV} (hP : MB g m_Mod_plainOf (d + 52) i0 i6 i8 i9 i10 i13 i14 i18 i19 i20 i21 i23 i25 i27 i28 i33 i42 i43 i44 i45 i46 i47 i48 i51 i52 x1 x2 x3 x4 x5 x7 x11 x12 x15 x16 x17 x26 x31 x32 x34 x35 x36 x37 x38 x39 x40 x41 x49 x50 P) {live v go2 br2 : Int} (hl : live = 0 ∨ live = 1) (hb : i24 = 0 ∨ i24 = 1) (hF : boV (cdA x2 i23) P live i22 i24 = some (v, go2, br2)) (hQ : ∀ y29 y30, Q (MM i0 i6 i8 i9 i10 i13 i14 i18 i19 i20 i21 go2 i23 br2 i25 i27 i28 i33 i42 i43 i44 i45 i46 i47 i48 i51 i52 x1 x2 x3 x4 x5 x7 x11 x12 x15 x16 x17 x26 y29 y30 x31 x32 x34 x35 x36 x37 x38 x39 x40 x41 x49 x50) (some (.int (ii v))))  : CT g m_Mod_bothOf (d + 53) [.ref 0, .int (ii live)] (MM i0 i6 i8 i9 i10 i13 i14 i18 i19 i20 i21 i22 i23 i24 i25 i27 i28 i33 i42 i43 i44 i45 i46 i47 i48 i51 i52 x1 x2 x3 x4 x5 x7 x11 x12 x15 x16 x17 x26 x29 x30 x31 x32 x34 x35 x36 x37 x38 x39 x40 x41 x49 x50) 0 0 Q := by
  refine CT.of (by decide) (Nat.le_of_ble_eq_true rfl) ?_
  show SJ _ _ _ _ [some (.ref 0), some (.int (ii live)), none, none] [] _ _ _ _
  obtain ⟨ww, gg, bb, hP1, hw1, hb1, hL1⟩ := boV_inv hF
  refine j_aload_n d_Mod_bothOf_0 rfl ?_
  refine j_iload_n d_Mod_bothOf_1 rfl ?_
  refine v_call1 d_Mod_bothOf_2 c_Mod_300 rfl ⟨_, rfl, rfl⟩ (Nat.le_of_ble_eq_true rfl) (hP live i22 i24 _ _ _ _ _ _ hP1 hl hb (fun y29 y30 => ?_))
  refine j_istore_n d_Mod_bothOf_5 (by decide) ?_
  show SJ _ _ _ _ [_, _, _, _] _ _ _ _ _
  exact lp_bothOf hC e0 e1 hP hl hQ _ 400 _ _ _ _ _ rfl hw1 hb1 hL1
theorem lp_testOf {g : Bool} {d : Nat} {Q : List xM → Option Value → Prop} {i0 i6 i8 i9 i10 i13 i14 i18 i19 i20 i21 i23 i25 i27 i28 i33 i42 i43 i44 i45 i46 i47 i48 i51 i52 : Int} {x1 x2 x3 x4 x5 x7 x11 x12 x15 x16 x17 x26 x31 x32 x34 x35 x36 x37 x38 x39 x40 x41 x49 x50 : Int → Int} (hC : ∀ k, 0 ≤ k → k < 2800 → 0 ≤ x2 (33 + k) ∧ x2 (33 + k) ≤ 400) (e0 : 0 ≤ i23) (e1 : i23 ≤ 2800) {P : Int → Int → Int → EV} (hP : MB g m_Mod_bothOf (d + 53) i0 i6 i8 i9 i10 i13 i14 i18 i19 i20 i21 i23 i25 i27 i28 i33 i42 i43 i44 i45 i46 i47 i48 i51 i52 x1 x2 x3 x4 x5 x7 x11 x12 x15 x16 x17 x26 x31 x32 x34 x35 x36 x37 x38 x39 x40 x41 x49 x50 P) {live v go2 br2 : Int} (hl : live = 0 ∨ live = 1) (hQ : ∀ y29 y30, Q (MM i0 i6 i8 i9 i10 i13 i14 i18 i19 i20 i21 go2 i23 br2 i25 i27 i28 i33 i42 i43 i44 i45 i46 i47 i48 i51 i52 x1 x2 x3 x4 x5 x7 x11 x12 x15 x16 x17 x26 y29 y30 x31 x32 x34 x35 x36 x37 x38 x39 x40 x41 x49 x50) (some (.int (ii v))))  : ∀ (nn : Nat) (k : Nat) (xx : Int) (go : Int) (br : Int) (z29 : Int → Int) (z30 : Int → Int), ((k : Int)).toNat = nn → (xx = 0 ∨ xx = 1) → (br = 0 ∨ br = 1) → teL (cdA x2 i23) P live k xx go br = some (v, go2, br2) → SJ g m_Mod_testOf (d + 54) 6 [some (.ref 0), some (.int (ii live)), some (.int (ii xx)), none] [] (MM i0 i6 i8 i9 i10 i13 i14 i18 i19 i20 i21 go i23 br i25 i27 i28 i33 i42 i43 i44 i45 i46 i47 i48 i51 i52 x1 x2 x3 x4 x5 x7 x11 x12 x15 x16 x17 x26 z29 z30 x31 x32 x34 x35 x36 x37 x38 x39 x40 x41 x49 x50) 0 0 Q := by
  intro nn
  induction nn using Nat.strongRecOn with
  | ind nn ih =>
  intro k xx go br z29 z30 hn hx1 hb hF
  obtain ⟨j, rfl, g0, g1, hcase⟩ := teL_inv hF
  have hcr := cdA_R hC e1 g0
  refine j_aload_n d_Mod_testOf_6 rfl ?_
  refine z_bipush d_Mod_testOf_7 (by decide) ?_
  refine v_call1 d_Mod_testOf_9 c_Mod_273 rfl ⟨_, rfl, rfl⟩ (Nat.le_of_ble_eq_true rfl) (t_Mod_passes0 hC e0 e1 (by omega) (by omega) (by omega) (fun h9 => ?_) (fun h9 => ?_))
  · refine z_if_eq (t := 50) d_Mod_testOf_12 (by decide) (by first | omega | exact hw _ | exact hx _ _ | assumption) (fun h => absurd h (by decide)) (fun _ => ?_)
    obtain ⟨hop, ww, gg, bb, hP2, hw2, hb2, hL2⟩ := (Hd.out hcase).resolve_right (fun q => q.1 (by omega))
    refine j_aload_n d_Mod_testOf_15 rfl ?_
    refine j_iload_n d_Mod_testOf_16 rfl ?_
    refine z_if_eq (t := 28) d_Mod_testOf_17 (by decide) (by first | omega | exact hw _ | exact hx _ _ | assumption) (fun h17 => ?_) (fun h17 => ?_)
    · refine z_iconst d_Mod_testOf_28 ?_
      rw [if_neg (show ¬ (live = 1 ∧ xx = 0) by omega)] at hP2
      refine v_call1 d_Mod_testOf_29 c_Mod_297 rfl ⟨_, rfl, rfl⟩ (Nat.le_of_ble_eq_true rfl) (hP _ (go + 1) br _ _ _ _ _ _ hP2 (by first | exact Or.inl rfl | exact Or.inr rfl) hb (fun y29 y30 => ?_))
      refine j_istore_n d_Mod_testOf_32 (by decide) ?_
      show SJ _ _ _ _ [_, _, _, _] _ _ _ _ _
      refine j_iload_n d_Mod_testOf_33 rfl ?_
      refine z_if_ne (t := 41) d_Mod_testOf_34 (by decide) (by first | omega | exact hw _ | exact hx _ _ | assumption) (fun h34 => ?_) (fun h34 => ?_)
      · refine z_iconst d_Mod_testOf_41 ?_
        refine j_goto (t := 46) d_Mod_testOf_42 (by decide) ?_
        rw [if_pos (show xx = 1 ∨ ww = 1 by omega)] at hL2
        refine j_istore_n d_Mod_testOf_46 (by decide) ?_
        show SJ _ _ _ _ [_, _, _, _] _ _ _ _ _
        refine j_goto (t := 6) d_Mod_testOf_47 (by decide) ?_
        refine SJ.mask [true, true, true, false] ?_
        show SJ _ _ _ _ [_, _, _, none] _ _ _ _ _
        exact ih _ (by omega) _ _ _ _ _ _ rfl (by first | exact Or.inl rfl | exact Or.inr rfl) hb2 hL2
      · refine j_iload_n d_Mod_testOf_37 rfl ?_
        refine z_if_eq (t := 45) d_Mod_testOf_38 (by decide) (by first | omega | exact hw _ | exact hx _ _ | assumption) (fun h38 => ?_) (fun h38 => ?_)
        · refine z_iconst d_Mod_testOf_45 ?_
          rw [if_neg (show ¬ (xx = 1 ∨ ww = 1) by omega)] at hL2
          refine j_istore_n d_Mod_testOf_46 (by decide) ?_
          show SJ _ _ _ _ [_, _, _, _] _ _ _ _ _
          refine j_goto (t := 6) d_Mod_testOf_47 (by decide) ?_
          refine SJ.mask [true, true, true, false] ?_
          show SJ _ _ _ _ [_, _, _, none] _ _ _ _ _
          exact ih _ (by omega) _ _ _ _ _ _ rfl (by first | exact Or.inl rfl | exact Or.inr rfl) hb2 hL2
        · refine z_iconst d_Mod_testOf_41 ?_
          refine j_goto (t := 46) d_Mod_testOf_42 (by decide) ?_
          rw [if_pos (show xx = 1 ∨ ww = 1 by omega)] at hL2
          refine j_istore_n d_Mod_testOf_46 (by decide) ?_
          show SJ _ _ _ _ [_, _, _, _] _ _ _ _ _
          refine j_goto (t := 6) d_Mod_testOf_47 (by decide) ?_
          refine SJ.mask [true, true, true, false] ?_
          show SJ _ _ _ _ [_, _, _, none] _ _ _ _ _
          exact ih _ (by omega) _ _ _ _ _ _ rfl (by first | exact Or.inl rfl | exact Or.inr rfl) hb2 hL2
    · refine j_iload_n d_Mod_testOf_20 rfl ?_
      refine z_if_ne (t := 28) d_Mod_testOf_21 (by decide) (by first | omega | exact hw _ | exact hx _ _ | assumption) (fun h21 => ?_) (fun h21 => ?_)
      · refine z_iconst d_Mod_testOf_28 ?_
        rw [if_neg (show ¬ (live = 1 ∧ xx = 0) by omega)] at hP2
        refine v_call1 d_Mod_testOf_29 c_Mod_297 rfl ⟨_, rfl, rfl⟩ (Nat.le_of_ble_eq_true rfl) (hP _ (go + 1) br _ _ _ _ _ _ hP2 (by first | exact Or.inl rfl | exact Or.inr rfl) hb (fun y29 y30 => ?_))
        refine j_istore_n d_Mod_testOf_32 (by decide) ?_
        show SJ _ _ _ _ [_, _, _, _] _ _ _ _ _
        refine j_iload_n d_Mod_testOf_33 rfl ?_
        refine z_if_ne (t := 41) d_Mod_testOf_34 (by decide) (by first | omega | exact hw _ | exact hx _ _ | assumption) (fun h34 => ?_) (fun h34 => ?_)
        · refine z_iconst d_Mod_testOf_41 ?_
          refine j_goto (t := 46) d_Mod_testOf_42 (by decide) ?_
          rw [if_pos (show xx = 1 ∨ ww = 1 by omega)] at hL2
          refine j_istore_n d_Mod_testOf_46 (by decide) ?_
          show SJ _ _ _ _ [_, _, _, _] _ _ _ _ _
          refine j_goto (t := 6) d_Mod_testOf_47 (by decide) ?_
          refine SJ.mask [true, true, true, false] ?_
          show SJ _ _ _ _ [_, _, _, none] _ _ _ _ _
          exact ih _ (by omega) _ _ _ _ _ _ rfl (by first | exact Or.inl rfl | exact Or.inr rfl) hb2 hL2
        · refine j_iload_n d_Mod_testOf_37 rfl ?_
          refine z_if_eq (t := 45) d_Mod_testOf_38 (by decide) (by first | omega | exact hw _ | exact hx _ _ | assumption) (fun h38 => ?_) (fun h38 => ?_)
          · refine z_iconst d_Mod_testOf_45 ?_
            rw [if_neg (show ¬ (xx = 1 ∨ ww = 1) by omega)] at hL2
            refine j_istore_n d_Mod_testOf_46 (by decide) ?_
            show SJ _ _ _ _ [_, _, _, _] _ _ _ _ _
            refine j_goto (t := 6) d_Mod_testOf_47 (by decide) ?_
            refine SJ.mask [true, true, true, false] ?_
            show SJ _ _ _ _ [_, _, _, none] _ _ _ _ _
            exact ih _ (by omega) _ _ _ _ _ _ rfl (by first | exact Or.inl rfl | exact Or.inr rfl) hb2 hL2
          · refine z_iconst d_Mod_testOf_41 ?_
            refine j_goto (t := 46) d_Mod_testOf_42 (by decide) ?_
            rw [if_pos (show xx = 1 ∨ ww = 1 by omega)] at hL2
            refine j_istore_n d_Mod_testOf_46 (by decide) ?_
            show SJ _ _ _ _ [_, _, _, _] _ _ _ _ _
            refine j_goto (t := 6) d_Mod_testOf_47 (by decide) ?_
            refine SJ.mask [true, true, true, false] ?_
            show SJ _ _ _ _ [_, _, _, none] _ _ _ _ _
            exact ih _ (by omega) _ _ _ _ _ _ rfl (by first | exact Or.inl rfl | exact Or.inr rfl) hb2 hL2
      · refine z_iconst d_Mod_testOf_24 ?_
        refine j_goto (t := 29) d_Mod_testOf_25 (by decide) ?_
        rw [if_pos (show live = 1 ∧ xx = 0 by omega)] at hP2
        refine v_call1 d_Mod_testOf_29 c_Mod_297 rfl ⟨_, rfl, rfl⟩ (Nat.le_of_ble_eq_true rfl) (hP _ (go + 1) br _ _ _ _ _ _ hP2 (by first | exact Or.inl rfl | exact Or.inr rfl) hb (fun y29 y30 => ?_))
        refine j_istore_n d_Mod_testOf_32 (by decide) ?_
        show SJ _ _ _ _ [_, _, _, _] _ _ _ _ _
        refine j_iload_n d_Mod_testOf_33 rfl ?_
        refine z_if_ne (t := 41) d_Mod_testOf_34 (by decide) (by first | omega | exact hw _ | exact hx _ _ | assumption) (fun h34 => ?_) (fun h34 => ?_)
        · refine z_iconst d_Mod_testOf_41 ?_
          refine j_goto (t := 46) d_Mod_testOf_42 (by decide) ?_
          rw [if_pos (show xx = 1 ∨ ww = 1 by omega)] at hL2
          refine j_istore_n d_Mod_testOf_46 (by decide) ?_
          show SJ _ _ _ _ [_, _, _, _] _ _ _ _ _
          refine j_goto (t := 6) d_Mod_testOf_47 (by decide) ?_
          refine SJ.mask [true, true, true, false] ?_
          show SJ _ _ _ _ [_, _, _, none] _ _ _ _ _
          exact ih _ (by omega) _ _ _ _ _ _ rfl (by first | exact Or.inl rfl | exact Or.inr rfl) hb2 hL2
        · refine j_iload_n d_Mod_testOf_37 rfl ?_
          refine z_if_eq (t := 45) d_Mod_testOf_38 (by decide) (by first | omega | exact hw _ | exact hx _ _ | assumption) (fun h38 => ?_) (fun h38 => ?_)
          · refine z_iconst d_Mod_testOf_45 ?_
            rw [if_neg (show ¬ (xx = 1 ∨ ww = 1) by omega)] at hL2
            refine j_istore_n d_Mod_testOf_46 (by decide) ?_
            show SJ _ _ _ _ [_, _, _, _] _ _ _ _ _
            refine j_goto (t := 6) d_Mod_testOf_47 (by decide) ?_
            refine SJ.mask [true, true, true, false] ?_
            show SJ _ _ _ _ [_, _, _, none] _ _ _ _ _
            exact ih _ (by omega) _ _ _ _ _ _ rfl (by first | exact Or.inl rfl | exact Or.inr rfl) hb2 hL2
          · refine z_iconst d_Mod_testOf_41 ?_
            refine j_goto (t := 46) d_Mod_testOf_42 (by decide) ?_
            rw [if_pos (show xx = 1 ∨ ww = 1 by omega)] at hL2
            refine j_istore_n d_Mod_testOf_46 (by decide) ?_
            show SJ _ _ _ _ [_, _, _, _] _ _ _ _ _
            refine j_goto (t := 6) d_Mod_testOf_47 (by decide) ?_
            refine SJ.mask [true, true, true, false] ?_
            show SJ _ _ _ _ [_, _, _, none] _ _ _ _ _
            exact ih _ (by omega) _ _ _ _ _ _ rfl (by first | exact Or.inl rfl | exact Or.inr rfl) hb2 hL2
  · refine z_if_eq (t := 50) d_Mod_testOf_12 (by decide) (by first | omega | exact hw _ | exact hx _ _ | assumption) (fun _ => ?_) (fun h => absurd h (by decide))
    obtain ⟨hno, rfl, rfl, rfl⟩ := (Hd.out hcase).resolve_left (fun q => absurd q.1 (by omega))
    refine j_iload_n d_Mod_testOf_50 rfl ?_
    exact z_zreturn rfl (by first | exact hx1 | omega) d_Mod_testOf_51 (hQ _ _)
theorem t_Mod_testOf {g : Bool} {d : Nat} {Q : List xM → Option Value → Prop} {i0 i6 i8 i9 i10 i13 i14 i18 i19 i20 i21 i22 i23 i24 i25 i27 i28 i33 i42 i43 i44 i45 i46 i47 i48 i51 i52 : Int} {x1 x2 x3 x4 x5 x7 x11 x12 x15 x16 x17 x26 x29 x30 x31 x32 x34 x35 x36 x37 x38 x39 x40 x41 x49 x50 : Int → Int} (hC : ∀ k, 0 ≤ k → k < 2800 → 0 ≤ x2 (33 + k) ∧ x2 (33 + k) ≤ 400) (e0 : 0 ≤ i23) (e1 : i23 ≤ 2800) {P : Int → Int → Int → EV} (hP : MB g m_Mod_bothOf (d + 53) i0 i6 i8 i9 i10 i13 i14 i18 i19 i20 i21 i23 i25 i27 i28 i33 i42 i43 i44 i45 i46 i47 i48 i51 i52 x1 x2 x3 x4 x5 x7 x11 x12 x15 x16 x17 x26 x31 x32 x34 x35 x36 x37 x38 x39 x40 x41 x49 x50 P) {live v go2 br2 : Int} (hl : live = 0 ∨ live = 1) (hb : i24 = 0 ∨ i24 = 1) (hF : teV (cdA x2 i23) P live i22 i24 = some (v, go2, br2)) (hQ : ∀ y29 y30, Q (MM i0 i6 i8 i9 i10 i13 i14 i18 i19 i20 i21 go2 i23 br2 i25 i27 i28 i33 i42 i43 i44 i45 i46 i47 i48 i51 i52 x1 x2 x3 x4 x5 x7 x11 x12 x15 x16 x17 x26 y29 y30 x31 x32 x34 x35 x36 x37 x38 x39 x40 x41 x49 x50) (some (.int (ii v))))  : CT g m_Mod_testOf (d + 54) [.ref 0, .int (ii live)] (MM i0 i6 i8 i9 i10 i13 i14 i18 i19 i20 i21 i22 i23 i24 i25 i27 i28 i33 i42 i43 i44 i45 i46 i47 i48 i51 i52 x1 x2 x3 x4 x5 x7 x11 x12 x15 x16 x17 x26 x29 x30 x31 x32 x34 x35 x36 x37 x38 x39 x40 x41 x49 x50) 0 0 Q := by
  refine CT.of (by decide) (Nat.le_of_ble_eq_true rfl) ?_
  show SJ _ _ _ _ [some (.ref 0), some (.int (ii live)), none, none] [] _ _ _ _
  obtain ⟨ww, gg, bb, hP1, hw1, hb1, hL1⟩ := teV_inv hF
  refine j_aload_n d_Mod_testOf_0 rfl ?_
  refine j_iload_n d_Mod_testOf_1 rfl ?_
  refine v_call1 d_Mod_testOf_2 c_Mod_297 rfl ⟨_, rfl, rfl⟩ (Nat.le_of_ble_eq_true rfl) (hP live i22 i24 _ _ _ _ _ _ hP1 hl hb (fun y29 y30 => ?_))
  refine j_istore_n d_Mod_testOf_5 (by decide) ?_
  show SJ _ _ _ _ [_, _, _, _] _ _ _ _ _
  exact lp_testOf hC e0 e1 hP hl hQ _ 400 _ _ _ _ _ rfl hw1 hb1 hL1
theorem testsOK {g : Bool} {d : Nat} {i0 i6 i8 i9 i10 i13 i14 i18 i19 i20 i21 i23 i25 i27 i28 i33 i42 i43 i44 i45 i46 i47 i48 i51 i52 : Int} {x1 x2 x3 x4 x5 x7 x11 x12 x15 x16 x17 x26 x31 x32 x34 x35 x36 x37 x38 x39 x40 x41 x49 x50 : Int → Int} (hn0 : 0 ≤ x2 0) (hn1 : x2 0 ≤ 20) (hs : ∀ j, 0 ≤ j → j < x2 0 → 0 ≤ x2 (1 + j) ∧ x2 (1 + j) ≤ 11) (hC : ∀ k, 0 ≤ k → k < 2800 → 0 ≤ x2 (33 + k) ∧ x2 (33 + k) ≤ 400) (e0 : 0 ≤ i23) (e1 : i23 ≤ 2800) (hio : i25 = 0 ∨ i25 = 1) : ∀ m : Nat, MB g m_Mod_testOf (d + 4 * m + 50) i0 i6 i8 i9 i10 i13 i14 i18 i19 i20 i21 i23 i25 i27 i28 i33 i42 i43 i44 i45 i46 i47 i48 i51 i52 x1 x2 x3 x4 x5 x7 x11 x12 x15 x16 x17 x26 x31 x32 x34 x35 x36 x37 x38 x39 x40 x41 x49 x50 (tsE (cdA x2 i23) (sE (cdA x2 i23) (vlA x2) (wvM i25 x26 x2 i27 i28) i25 9) m)
  | 0 => fun _ _ _ _ _ _ _ _ _ hF => by cases hF
  | m + 1 => by
    have hT : MB g m_Mod_testOf (d + 4 * m + 50) i0 i6 i8 i9 i10 i13 i14 i18 i19 i20 i21 i23 i25 i27 i28 i33 i42 i43 i44 i45 i46 i47 i48 i51 i52 x1 x2 x3 x4 x5 x7 x11 x12 x15 x16 x17 x26 x31 x32 x34 x35 x36 x37 x38 x39 x40 x41 x49 x50 (tsE (cdA x2 i23) (sE (cdA x2 i23) (vlA x2) (wvM i25 x26 x2 i27 i28) i25 9) m) := testsOK (g := g) (d := d) hn0 hn1 hs hC e0 e1 hio m
    have hS : ME g m_Mod_sumOf (d + 4 * m + 50) i0 i6 i8 i9 i10 i13 i14 i18 i19 i20 i21 i23 i25 i27 i28 i33 i42 i43 i44 i45 i46 i47 i48 i51 i52 x1 x2 x3 x4 x5 x7 x11 x12 x15 x16 x17 x26 x31 x32 x34 x35 x36 x37 x38 x39 x40 x41 x49 x50 (sE (cdA x2 i23) (vlA x2) (wvM i25 x26 x2 i27 i28) i25 9) := sumsOK (g := g) (d := d + 4 * m + 13) hn0 hn1 hs hC e0 e1 hio 9
    have h1 : MB g m_Mod_positiveOf (d + 4 * m + 51) i0 i6 i8 i9 i10 i13 i14 i18 i19 i20 i21 i23 i25 i27 i28 i33 i42 i43 i44 i45 i46 i47 i48 i51 i52 x1 x2 x3 x4 x5 x7 x11 x12 x15 x16 x17 x26 x31 x32 x34 x35 x36 x37 x38 x39 x40 x41 x49 x50 (poE (cdA x2 i23) (sE (cdA x2 i23) (vlA x2) (wvM i25 x26 x2 i27 i28) i25 9) (tsE (cdA x2 i23) (sE (cdA x2 i23) (vlA x2) (wvM i25 x26 x2 i27 i28) i25 9) m)) := fun live go br v go2 br2 z29 z30 Q hF hl hb hQ => t_Mod_positiveOf hC e0 e1 hS hT hl hb hF hQ
    have h2 : MB g m_Mod_plainOf (d + 4 * m + 52) i0 i6 i8 i9 i10 i13 i14 i18 i19 i20 i21 i23 i25 i27 i28 i33 i42 i43 i44 i45 i46 i47 i48 i51 i52 x1 x2 x3 x4 x5 x7 x11 x12 x15 x16 x17 x26 x31 x32 x34 x35 x36 x37 x38 x39 x40 x41 x49 x50 (plV (cdA x2 i23) (poE (cdA x2 i23) (sE (cdA x2 i23) (vlA x2) (wvM i25 x26 x2 i27 i28) i25 9) (tsE (cdA x2 i23) (sE (cdA x2 i23) (vlA x2) (wvM i25 x26 x2 i27 i28) i25 9) m))) := fun live go br v go2 br2 z29 z30 Q hF hl hb hQ => t_Mod_plainOf hC e0 e1 h1 hl hb hF hQ
    have h3 : MB g m_Mod_bothOf (d + 4 * m + 53) i0 i6 i8 i9 i10 i13 i14 i18 i19 i20 i21 i23 i25 i27 i28 i33 i42 i43 i44 i45 i46 i47 i48 i51 i52 x1 x2 x3 x4 x5 x7 x11 x12 x15 x16 x17 x26 x31 x32 x34 x35 x36 x37 x38 x39 x40 x41 x49 x50 (boV (cdA x2 i23) (plV (cdA x2 i23) (poE (cdA x2 i23) (sE (cdA x2 i23) (vlA x2) (wvM i25 x26 x2 i27 i28) i25 9) (tsE (cdA x2 i23) (sE (cdA x2 i23) (vlA x2) (wvM i25 x26 x2 i27 i28) i25 9) m)))) := fun live go br v go2 br2 z29 z30 Q hF hl hb hQ => t_Mod_bothOf hC e0 e1 h2 hl hb hF hQ
    have h4 : MB g m_Mod_testOf (d + 4 * m + 54) i0 i6 i8 i9 i10 i13 i14 i18 i19 i20 i21 i23 i25 i27 i28 i33 i42 i43 i44 i45 i46 i47 i48 i51 i52 x1 x2 x3 x4 x5 x7 x11 x12 x15 x16 x17 x26 x31 x32 x34 x35 x36 x37 x38 x39 x40 x41 x49 x50 (tsE (cdA x2 i23) (sE (cdA x2 i23) (vlA x2) (wvM i25 x26 x2 i27 i28) i25 9) (m + 1)) := fun live go br v go2 br2 z29 z30 Q hF hl hb hQ => t_Mod_testOf hC e0 e1 h3 hl hb hF hQ
    rw [show d + 4 * (m + 1) + 50 = d + 4 * m + 54 by omega]
    exact h4
