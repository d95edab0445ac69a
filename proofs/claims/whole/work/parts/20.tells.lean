theorem t_Mod_setsAsked {g : Bool} {d : Nat} {Q : List xM → Option Value → Prop} {i0 i6 i8 i9 i10 i13 i14 i18 i19 i20 i21 i22 i23 i24 i25 i27 i28 i33 i42 i43 i44 i45 i46 i47 i48 i51 i52 : Int} {x1 x2 x3 x4 x5 x7 x11 x12 x15 x16 x17 x26 x29 x30 x31 x32 x34 x35 x36 x37 x38 x39 x40 x41 x49 x50 : Int → Int} {s p : Int} (s0 : 0 ≤ s) (s1 : s ≤ 11) (hQ : Q (MM i0 i6 i8 i9 i10 i13 i14 i18 i19 i20 i21 i22 i23 i24 i25 i27 i28 i33 i42 i43 i44 i45 i46 i47 i48 i51 i52 x1 x2 x3 x4 x5 x7 x11 x12 x15 x16 x17 (aqU x26 x2 s p) x29 x30 x31 x32 x34 x35 x36 x37 x38 x39 x40 x41 x49 x50) none) : CT g m_Mod_setsAsked (d + 2) [.ref 0, .int (ii s), .int (ii p)] (MM i0 i6 i8 i9 i10 i13 i14 i18 i19 i20 i21 i22 i23 i24 i25 i27 i28 i33 i42 i43 i44 i45 i46 i47 i48 i51 i52 x1 x2 x3 x4 x5 x7 x11 x12 x15 x16 x17 x26 x29 x30 x31 x32 x34 x35 x36 x37 x38 x39 x40 x41 x49 x50) 0 0 Q := by
  refine CT.of (by decide) (Nat.le_of_ble_eq_true rfl) ?_
  show SJ _ _ _ _ [some (.ref 0), some (.int (ii s)), some (.int (ii p))] [] _ _ _ _
  refine j_aload_n d_Mod_setsAsked_0 rfl ?_
  refine mg_asked f_Mod_67 d_Mod_setsAsked_1 ?_
  refine z_iconst d_Mod_setsAsked_4 ?_
  refine j_iload_n d_Mod_setsAsked_5 rfl ?_
  refine s_call1 d_Mod_setsAsked_6 c_Mod_309 (Nat.le_of_ble_eq_true rfl) (t_Mod_kindOf (by first | omega | exact hw _ | exact hx _ _ | assumption) ?_)
  refine ms_asked d_Mod_setsAsked_9 (by omega) (by omega) ?_
  refine j_aload_n d_Mod_setsAsked_10 rfl ?_
  refine mg_asked f_Mod_67 d_Mod_setsAsked_11 ?_
  refine z_iconst d_Mod_setsAsked_14 ?_
  refine j_iload_n d_Mod_setsAsked_15 rfl ?_
  refine s_call1 d_Mod_setsAsked_16 c_Mod_312 (Nat.le_of_ble_eq_true rfl) (t_Mod_opens0 (by first | omega | exact hw _ | exact hx _ _ | assumption) (fun h16 => ?_) (fun h16 => ?_))
  · refine z_if_eq (t := 26) d_Mod_setsAsked_19 (by decide) (by first | omega | exact hw _ | exact hx _ _ | assumption) (fun h => absurd h (by decide)) (fun _ => ?_)
    refine z_iconst d_Mod_setsAsked_22 ?_
    refine j_goto (t := 27) d_Mod_setsAsked_23 (by decide) ?_
    refine ms_asked d_Mod_setsAsked_27 (by omega) (by omega) ?_
    refine j_aload_n d_Mod_setsAsked_28 rfl ?_
    refine mg_asked f_Mod_67 d_Mod_setsAsked_29 ?_
    refine z_iconst d_Mod_setsAsked_32 ?_
    refine j_iload_n d_Mod_setsAsked_33 rfl ?_
    refine s_call1 d_Mod_setsAsked_34 c_Mod_22 (Nat.le_of_ble_eq_true rfl) (t_Mod_isName (by first | omega | exact hw _ | exact hx _ _ | assumption) (fun h34 => ?_) (fun h34 => ?_))
    · refine z_if_eq (t := 47) d_Mod_setsAsked_37 (by decide) (by first | omega | exact hw _ | exact hx _ _ | assumption) (fun h => absurd h (by decide)) (fun _ => ?_)
      refine j_iload_n d_Mod_setsAsked_40 rfl ?_
      refine z_bipush d_Mod_setsAsked_41 (by decide) ?_
      refine z_isub d_Mod_setsAsked_43 ?_
      refine j_goto (t := 48) d_Mod_setsAsked_44 (by decide) ?_
      refine ms_asked d_Mod_setsAsked_48 (by omega) (by omega) ?_
      refine j_aload_n d_Mod_setsAsked_49 rfl ?_
      refine mg_asked f_Mod_67 d_Mod_setsAsked_50 ?_
      refine z_iconst d_Mod_setsAsked_53 ?_
      refine j_iload_n d_Mod_setsAsked_54 rfl ?_
      refine ms_asked d_Mod_setsAsked_55 (by omega) (by omega) ?_
      refine j_aload_n d_Mod_setsAsked_56 rfl ?_
      refine mg_asked f_Mod_67 d_Mod_setsAsked_57 ?_
      refine z_iconst d_Mod_setsAsked_60 ?_
      refine j_aload_n d_Mod_setsAsked_61 rfl ?_
      refine mg_kept f_Mod_32 d_Mod_setsAsked_62 ?_
      refine z_bipush d_Mod_setsAsked_65 (by decide) ?_
      refine ml_kept d_Mod_setsAsked_67 (by omega) (by omega) ?_
      refine ms_asked d_Mod_setsAsked_68 (by omega) (by omega) ?_
      refine j_aload_n d_Mod_setsAsked_69 rfl ?_
      refine mg_asked f_Mod_67 d_Mod_setsAsked_70 ?_
      refine z_iconst d_Mod_setsAsked_73 ?_
      refine j_iload_n d_Mod_setsAsked_74 rfl ?_
      refine ms_asked d_Mod_setsAsked_75 (by omega) (by omega) ?_
      refine j_aload_n d_Mod_setsAsked_76 rfl ?_
      refine mg_asked f_Mod_67 d_Mod_setsAsked_77 ?_
      refine z_bipush d_Mod_setsAsked_80 (by decide) ?_
      refine j_aload_n d_Mod_setsAsked_82 rfl ?_
      refine v_call0 d_Mod_setsAsked_83 c_Mod_125 rfl ⟨_, rfl, rfl⟩ (Nat.le_of_ble_eq_true rfl) (t_Mod_length  ?_)
      refine ms_asked d_Mod_setsAsked_86 (by omega) (by omega) ?_
      refine j_aload_n d_Mod_setsAsked_87 rfl ?_
      refine mg_asked f_Mod_67 d_Mod_setsAsked_88 ?_
      refine z_bipush d_Mod_setsAsked_91 (by decide) ?_
      refine j_aload_n d_Mod_setsAsked_93 rfl ?_
      refine mg_kept f_Mod_32 d_Mod_setsAsked_94 ?_
      refine z_bipush d_Mod_setsAsked_97 (by decide) ?_
      refine ml_kept d_Mod_setsAsked_99 (by omega) (by omega) ?_
      refine ms_asked d_Mod_setsAsked_100 (by omega) (by omega) ?_
      first | (exfalso; omega) | exact j_return rfl d_Mod_setsAsked_101 (by unfold aqU at hQ; first | (rw [if_pos (by omega), if_neg (by omega)] at hQ; exact hQ) | (rw [if_neg (by omega), if_pos (by omega)] at hQ; exact hQ) | (rw [if_neg (by omega), if_neg (by omega)] at hQ; exact hQ))
    · refine z_if_eq (t := 47) d_Mod_setsAsked_37 (by decide) (by first | omega | exact hw _ | exact hx _ _ | assumption) (fun _ => ?_) (fun h => absurd h (by decide))
      refine z_iconst d_Mod_setsAsked_47 ?_
      refine ms_asked d_Mod_setsAsked_48 (by omega) (by omega) ?_
      refine j_aload_n d_Mod_setsAsked_49 rfl ?_
      refine mg_asked f_Mod_67 d_Mod_setsAsked_50 ?_
      refine z_iconst d_Mod_setsAsked_53 ?_
      refine j_iload_n d_Mod_setsAsked_54 rfl ?_
      refine ms_asked d_Mod_setsAsked_55 (by omega) (by omega) ?_
      refine j_aload_n d_Mod_setsAsked_56 rfl ?_
      refine mg_asked f_Mod_67 d_Mod_setsAsked_57 ?_
      refine z_iconst d_Mod_setsAsked_60 ?_
      refine j_aload_n d_Mod_setsAsked_61 rfl ?_
      refine mg_kept f_Mod_32 d_Mod_setsAsked_62 ?_
      refine z_bipush d_Mod_setsAsked_65 (by decide) ?_
      refine ml_kept d_Mod_setsAsked_67 (by omega) (by omega) ?_
      refine ms_asked d_Mod_setsAsked_68 (by omega) (by omega) ?_
      refine j_aload_n d_Mod_setsAsked_69 rfl ?_
      refine mg_asked f_Mod_67 d_Mod_setsAsked_70 ?_
      refine z_iconst d_Mod_setsAsked_73 ?_
      refine j_iload_n d_Mod_setsAsked_74 rfl ?_
      refine ms_asked d_Mod_setsAsked_75 (by omega) (by omega) ?_
      refine j_aload_n d_Mod_setsAsked_76 rfl ?_
      refine mg_asked f_Mod_67 d_Mod_setsAsked_77 ?_
      refine z_bipush d_Mod_setsAsked_80 (by decide) ?_
      refine j_aload_n d_Mod_setsAsked_82 rfl ?_
      refine v_call0 d_Mod_setsAsked_83 c_Mod_125 rfl ⟨_, rfl, rfl⟩ (Nat.le_of_ble_eq_true rfl) (t_Mod_length  ?_)
      refine ms_asked d_Mod_setsAsked_86 (by omega) (by omega) ?_
      refine j_aload_n d_Mod_setsAsked_87 rfl ?_
      refine mg_asked f_Mod_67 d_Mod_setsAsked_88 ?_
      refine z_bipush d_Mod_setsAsked_91 (by decide) ?_
      refine j_aload_n d_Mod_setsAsked_93 rfl ?_
      refine mg_kept f_Mod_32 d_Mod_setsAsked_94 ?_
      refine z_bipush d_Mod_setsAsked_97 (by decide) ?_
      refine ml_kept d_Mod_setsAsked_99 (by omega) (by omega) ?_
      refine ms_asked d_Mod_setsAsked_100 (by omega) (by omega) ?_
      first | (exfalso; omega) | exact j_return rfl d_Mod_setsAsked_101 (by unfold aqU at hQ; first | (rw [if_pos (by omega), if_neg (by omega)] at hQ; exact hQ) | (rw [if_neg (by omega), if_pos (by omega)] at hQ; exact hQ) | (rw [if_neg (by omega), if_neg (by omega)] at hQ; exact hQ))
  · refine z_if_eq (t := 26) d_Mod_setsAsked_19 (by decide) (by first | omega | exact hw _ | exact hx _ _ | assumption) (fun _ => ?_) (fun h => absurd h (by decide))
    refine z_iconst d_Mod_setsAsked_26 ?_
    refine ms_asked d_Mod_setsAsked_27 (by omega) (by omega) ?_
    refine j_aload_n d_Mod_setsAsked_28 rfl ?_
    refine mg_asked f_Mod_67 d_Mod_setsAsked_29 ?_
    refine z_iconst d_Mod_setsAsked_32 ?_
    refine j_iload_n d_Mod_setsAsked_33 rfl ?_
    refine s_call1 d_Mod_setsAsked_34 c_Mod_22 (Nat.le_of_ble_eq_true rfl) (t_Mod_isName (by first | omega | exact hw _ | exact hx _ _ | assumption) (fun h34 => ?_) (fun h34 => ?_))
    · refine z_if_eq (t := 47) d_Mod_setsAsked_37 (by decide) (by first | omega | exact hw _ | exact hx _ _ | assumption) (fun h => absurd h (by decide)) (fun _ => ?_)
      refine j_iload_n d_Mod_setsAsked_40 rfl ?_
      refine z_bipush d_Mod_setsAsked_41 (by decide) ?_
      refine z_isub d_Mod_setsAsked_43 ?_
      refine j_goto (t := 48) d_Mod_setsAsked_44 (by decide) ?_
      refine ms_asked d_Mod_setsAsked_48 (by omega) (by omega) ?_
      refine j_aload_n d_Mod_setsAsked_49 rfl ?_
      refine mg_asked f_Mod_67 d_Mod_setsAsked_50 ?_
      refine z_iconst d_Mod_setsAsked_53 ?_
      refine j_iload_n d_Mod_setsAsked_54 rfl ?_
      refine ms_asked d_Mod_setsAsked_55 (by omega) (by omega) ?_
      refine j_aload_n d_Mod_setsAsked_56 rfl ?_
      refine mg_asked f_Mod_67 d_Mod_setsAsked_57 ?_
      refine z_iconst d_Mod_setsAsked_60 ?_
      refine j_aload_n d_Mod_setsAsked_61 rfl ?_
      refine mg_kept f_Mod_32 d_Mod_setsAsked_62 ?_
      refine z_bipush d_Mod_setsAsked_65 (by decide) ?_
      refine ml_kept d_Mod_setsAsked_67 (by omega) (by omega) ?_
      refine ms_asked d_Mod_setsAsked_68 (by omega) (by omega) ?_
      refine j_aload_n d_Mod_setsAsked_69 rfl ?_
      refine mg_asked f_Mod_67 d_Mod_setsAsked_70 ?_
      refine z_iconst d_Mod_setsAsked_73 ?_
      refine j_iload_n d_Mod_setsAsked_74 rfl ?_
      refine ms_asked d_Mod_setsAsked_75 (by omega) (by omega) ?_
      refine j_aload_n d_Mod_setsAsked_76 rfl ?_
      refine mg_asked f_Mod_67 d_Mod_setsAsked_77 ?_
      refine z_bipush d_Mod_setsAsked_80 (by decide) ?_
      refine j_aload_n d_Mod_setsAsked_82 rfl ?_
      refine v_call0 d_Mod_setsAsked_83 c_Mod_125 rfl ⟨_, rfl, rfl⟩ (Nat.le_of_ble_eq_true rfl) (t_Mod_length  ?_)
      refine ms_asked d_Mod_setsAsked_86 (by omega) (by omega) ?_
      refine j_aload_n d_Mod_setsAsked_87 rfl ?_
      refine mg_asked f_Mod_67 d_Mod_setsAsked_88 ?_
      refine z_bipush d_Mod_setsAsked_91 (by decide) ?_
      refine j_aload_n d_Mod_setsAsked_93 rfl ?_
      refine mg_kept f_Mod_32 d_Mod_setsAsked_94 ?_
      refine z_bipush d_Mod_setsAsked_97 (by decide) ?_
      refine ml_kept d_Mod_setsAsked_99 (by omega) (by omega) ?_
      refine ms_asked d_Mod_setsAsked_100 (by omega) (by omega) ?_
      first | (exfalso; omega) | exact j_return rfl d_Mod_setsAsked_101 (by unfold aqU at hQ; first | (rw [if_pos (by omega), if_neg (by omega)] at hQ; exact hQ) | (rw [if_neg (by omega), if_pos (by omega)] at hQ; exact hQ) | (rw [if_neg (by omega), if_neg (by omega)] at hQ; exact hQ))
    · refine z_if_eq (t := 47) d_Mod_setsAsked_37 (by decide) (by first | omega | exact hw _ | exact hx _ _ | assumption) (fun _ => ?_) (fun h => absurd h (by decide))
      refine z_iconst d_Mod_setsAsked_47 ?_
      refine ms_asked d_Mod_setsAsked_48 (by omega) (by omega) ?_
      refine j_aload_n d_Mod_setsAsked_49 rfl ?_
      refine mg_asked f_Mod_67 d_Mod_setsAsked_50 ?_
      refine z_iconst d_Mod_setsAsked_53 ?_
      refine j_iload_n d_Mod_setsAsked_54 rfl ?_
      refine ms_asked d_Mod_setsAsked_55 (by omega) (by omega) ?_
      refine j_aload_n d_Mod_setsAsked_56 rfl ?_
      refine mg_asked f_Mod_67 d_Mod_setsAsked_57 ?_
      refine z_iconst d_Mod_setsAsked_60 ?_
      refine j_aload_n d_Mod_setsAsked_61 rfl ?_
      refine mg_kept f_Mod_32 d_Mod_setsAsked_62 ?_
      refine z_bipush d_Mod_setsAsked_65 (by decide) ?_
      refine ml_kept d_Mod_setsAsked_67 (by omega) (by omega) ?_
      refine ms_asked d_Mod_setsAsked_68 (by omega) (by omega) ?_
      refine j_aload_n d_Mod_setsAsked_69 rfl ?_
      refine mg_asked f_Mod_67 d_Mod_setsAsked_70 ?_
      refine z_iconst d_Mod_setsAsked_73 ?_
      refine j_iload_n d_Mod_setsAsked_74 rfl ?_
      refine ms_asked d_Mod_setsAsked_75 (by omega) (by omega) ?_
      refine j_aload_n d_Mod_setsAsked_76 rfl ?_
      refine mg_asked f_Mod_67 d_Mod_setsAsked_77 ?_
      refine z_bipush d_Mod_setsAsked_80 (by decide) ?_
      refine j_aload_n d_Mod_setsAsked_82 rfl ?_
      refine v_call0 d_Mod_setsAsked_83 c_Mod_125 rfl ⟨_, rfl, rfl⟩ (Nat.le_of_ble_eq_true rfl) (t_Mod_length  ?_)
      refine ms_asked d_Mod_setsAsked_86 (by omega) (by omega) ?_
      refine j_aload_n d_Mod_setsAsked_87 rfl ?_
      refine mg_asked f_Mod_67 d_Mod_setsAsked_88 ?_
      refine z_bipush d_Mod_setsAsked_91 (by decide) ?_
      refine j_aload_n d_Mod_setsAsked_93 rfl ?_
      refine mg_kept f_Mod_32 d_Mod_setsAsked_94 ?_
      refine z_bipush d_Mod_setsAsked_97 (by decide) ?_
      refine ml_kept d_Mod_setsAsked_99 (by omega) (by omega) ?_
      refine ms_asked d_Mod_setsAsked_100 (by omega) (by omega) ?_
      first | (exfalso; omega) | exact j_return rfl d_Mod_setsAsked_101 (by unfold aqU at hQ; first | (rw [if_pos (by omega), if_neg (by omega)] at hQ; exact hQ) | (rw [if_neg (by omega), if_pos (by omega)] at hQ; exact hQ) | (rw [if_neg (by omega), if_neg (by omega)] at hQ; exact hQ))
theorem lp_tells {g : Bool} {d : Nat} {Q : List xM → Option Value → Prop} {i0 i6 i8 i9 i10 i13 i14 i18 i19 i20 i21 i23 i27 i28 i33 i42 i43 i44 i45 i46 i47 i48 i51 i52 : Int} {x1 x2 x3 x4 x5 x7 x11 x12 x15 x16 x17 x26 x31 x32 x34 x35 x36 x37 x38 x39 x40 x41 x49 x50 : Int → Int} (hC : ∀ k, 0 ≤ k → k < 2800 → 0 ≤ x2 (33 + k) ∧ x2 (33 + k) ≤ 400) (e0 : 0 ≤ i23) (e1 : i23 ≤ 2800) {S_ T_ : Int → Int → Int → EV} (hS : ME g m_Mod_sumOf (d + 86) i0 i6 i8 i9 i10 i13 i14 i18 i19 i20 i21 i23 0 i27 i28 i33 i42 i43 i44 i45 i46 i47 i48 i51 i52 x1 x2 x3 x4 x5 x7 x11 x12 x15 x16 x17 x26 x31 x32 x34 x35 x36 x37 x38 x39 x40 x41 x49 x50 S_) (hT : MB g m_Mod_testOf (d + 86) i0 i6 i8 i9 i10 i13 i14 i18 i19 i20 i21 i23 0 i27 i28 i33 i42 i43 i44 i45 i46 i47 i48 i51 i52 x1 x2 x3 x4 x5 x7 x11 x12 x15 x16 x17 x26 x31 x32 x34 x35 x36 x37 x38 x39 x40 x41 x49 x50 T_) {head s p wo r : Int} (rh : R32 head) (hQ : ∀ j22 j24 y29 y30, Q (MM i0 i6 i8 i9 i10 i13 i14 i18 i19 i20 i21 j22 i23 j24 0 i27 i28 i33 i42 i43 i44 i45 i46 i47 i48 i51 i52 x1 x2 x3 x4 x5 x7 x11 x12 x15 x16 x17 x26 y29 y30 x31 x32 x34 x35 x36 x37 x38 x39 x40 x41 x49 x50) (some (.int (ii r)))) : ∀ (nn : Nat) (k : Nat) (told : Int) (go : Int) (br : Int) (z29 : Int → Int) (z30 : Int → Int), ((k : Int)).toNat = nn → (0 ≤ told ∧ told ≤ 99) → R32 go → tlL (cdA x2 i23) S_ T_ i23 head k told go = some r → SJ g m_Mod_tells (d + 87) 69 [some (.ref 0), some (.int (ii head)), some (.int (ii s)), some (.int (ii p)), some (.int (ii wo)), some (.long (ll told)), none, none, none, none, none, none] [] (MM i0 i6 i8 i9 i10 i13 i14 i18 i19 i20 i21 go i23 br 0 i27 i28 i33 i42 i43 i44 i45 i46 i47 i48 i51 i52 x1 x2 x3 x4 x5 x7 x11 x12 x15 x16 x17 x26 z29 z30 x31 x32 x34 x35 x36 x37 x38 x39 x40 x41 x49 x50) 0 0 Q := by
  intro nn
  induction nn using Nat.strongRecOn with
  | ind nn ih =>
  intro k told go br z29 z30 hn rt rg hF
  obtain ⟨j, rfl, hcase⟩ := tlL_inv hF
  refine j_aload_n d_Mod_tells_69 rfl ?_
  refine mg_go f_Mod_249 d_Mod_tells_70 ?_
  refine j_aload_n d_Mod_tells_73 rfl ?_
  refine mg_goEnd f_Mod_246 d_Mod_tells_74 ?_
  refine z_icmp_ge (t := 222) d_Mod_tells_77 (by decide) (by first | omega | exact hw _ | exact hx _ _ | assumption) (by first | omega | exact hw _ | exact hx _ _ | assumption) (fun h77 => ?_) (fun h77 => ?_)
  · obtain ⟨hge, rfl⟩ := (Hd.out hcase).resolve_right (fun q => q.1 (by omega))
    refine j_lload d_Mod_tells_222 rfl ?_
    refine z_l2i d_Mod_tells_224 (by first | omega | exact hw _ | exact hx _ _ | assumption) ?_
    exact j_ireturn rfl d_Mod_tells_225 (hQ _ _ _ _)
  · obtain ⟨hno, hg, vv, g1, b1, h4, h5, hg1, hv1, hb1, hcas2⟩ := (Hd.out hcase).resolve_left (fun q => absurd q.1 (by omega))
    have hcr := cdA_R (k := go) hC e1 (by omega)
    refine j_aload_n d_Mod_tells_80 rfl ?_
    refine j_aload_n d_Mod_tells_81 rfl ?_
    refine mg_go f_Mod_249 d_Mod_tells_82 ?_
    refine v_call1 d_Mod_tells_85 c_Mod_252 rfl ⟨_, rfl, rfl⟩ (Nat.le_of_ble_eq_true rfl) (t_Mod_codeAt hC e0 e1 (by omega) (by omega) ?_)
    refine j_istore d_Mod_tells_88 (by decide) ?_
    show SJ _ _ _ _ [_, _, _, _, _, _, _, _, _, _, _, _] _ _ _ _ _
    refine j_aload_n d_Mod_tells_90 rfl ?_
    refine z_iconst d_Mod_tells_91 ?_
    refine mp_broken f_Mod_259 d_Mod_tells_92 (by first | exact Or.inl rfl | exact Or.inr rfl | assumption | omega) ?_
    refine j_aload_n d_Mod_tells_95 rfl ?_
    refine j_dup d_Mod_tells_96 rfl ?_
    refine mg_go f_Mod_249 d_Mod_tells_97 ?_
    refine z_iconst d_Mod_tells_100 ?_
    refine z_iadd d_Mod_tells_101 ?_
    refine mp_go f_Mod_249 d_Mod_tells_102 ?_
    refine j_iload d_Mod_tells_105 rfl ?_
    refine z_iconst d_Mod_tells_107 ?_
    refine z_icmp_ne (t := 115) d_Mod_tells_108 (by decide) (by first | omega | exact hw _ | exact hx _ _ | assumption) (by first | omega | exact hw _ | exact hx _ _ | assumption) (fun h108 => ?_) (fun h108 => ?_)
    · have hS2 := h5 (by omega)
      clear h4 h5
      refine j_aload_n d_Mod_tells_115 rfl ?_
      refine z_iconst d_Mod_tells_116 ?_
      refine v_call1 d_Mod_tells_117 c_Mod_276 rfl ⟨_, rfl, rfl⟩ (Nat.le_of_ble_eq_true rfl) (hS 1 (go + 1) 0 _ _ _ _ _ _ hS2 (Or.inr rfl) (Or.inl rfl) (fun y29 y30 => ?_))
      refine j_lstore d_Mod_tells_120 (by decide) ?_
      show SJ _ _ _ _ [_, _, _, _, _, _, _, _, _, _, _, _] _ _ _ _ _
      refine j_aload_n d_Mod_tells_122 rfl ?_
      refine mg_broken f_Mod_259 d_Mod_tells_123 ?_
      refine j_istore d_Mod_tells_126 (by decide) ?_
      show SJ _ _ _ _ [_, _, _, _, _, _, _, _, _, _, _, _] _ _ _ _ _
      refine j_aload_n d_Mod_tells_128 rfl ?_
      refine z_iconst d_Mod_tells_129 ?_
      refine mp_broken f_Mod_259 d_Mod_tells_130 (by first | exact Or.inl rfl | exact Or.inr rfl | assumption | omega) ?_
      have hcr2 := cdA_R (k := g1) hC e1 (by omega)
      refine j_aload_n d_Mod_tells_133 rfl ?_
      refine z_iconst d_Mod_tells_134 ?_
      refine v_call1 d_Mod_tells_135 c_Mod_273 rfl ⟨_, rfl, rfl⟩ (Nat.le_of_ble_eq_true rfl) (t_Mod_passes0 hC e0 e1 (by omega) (by omega) (by omega) (fun h135 => ?_) (fun h135 => ?_))
      · refine z_if_eq (t := 149) d_Mod_tells_138 (by decide) (by first | omega | exact hw _ | exact hx _ _ | assumption) (fun h => absurd h (by decide)) (fun _ => ?_)
        obtain ⟨hif, tv, g2, b2, hT2, hg2, hv2, hb2, hL2⟩ := (Hd.out hcas2).resolve_right (fun q => q.1 (by omega))
        refine j_aload_n d_Mod_tells_141 rfl ?_
        refine z_iconst d_Mod_tells_142 ?_
        refine v_call1 d_Mod_tells_143 c_Mod_306 rfl ⟨_, rfl, rfl⟩ (Nat.le_of_ble_eq_true rfl) (hT 1 _ 0 _ _ _ _ _ _ hT2 (Or.inr rfl) (Or.inl rfl) (fun y29 y30 => ?_))
        refine z_if_eq (t := 153) d_Mod_tells_146 (by decide) (by first | omega | exact hw _ | exact hx _ _ | assumption) (fun h146 => ?_) (fun h146 => ?_)
        · refine z_iconst d_Mod_tells_153 ?_
          refine j_istore d_Mod_tells_154 (by decide) ?_
          show SJ _ _ _ _ [_, _, _, _, _, _, _, _, _, _, _, _] _ _ _ _ _
          refine j_iload d_Mod_tells_156 rfl ?_
          refine j_iload_n d_Mod_tells_158 rfl ?_
          refine z_icmp_ne (t := 209) d_Mod_tells_159 (by decide) (by first | omega | exact hw _ | exact hx _ _ | assumption) (by first | omega | exact hw _ | exact hx _ _ | assumption) (fun h159 => ?_) (fun h159 => ?_)
          · refine j_aload_n d_Mod_tells_209 rfl ?_
            refine j_dup d_Mod_tells_210 rfl ?_
            refine mg_go f_Mod_249 d_Mod_tells_211 ?_
            refine z_iconst d_Mod_tells_214 ?_
            refine z_iadd d_Mod_tells_215 ?_
            refine mp_go f_Mod_249 d_Mod_tells_216 ?_
            refine j_goto (t := 69) d_Mod_tells_219 (by decide) ?_
            refine SJ.mask [true, true, true, true, true, true, true, false, false, true, false, false] ?_
            show SJ _ _ _ _ [_, _, _, _, _, _, none, none, none, none, none, none] _ _ _ _ _
            first
            | (exfalso; omega)
            | (unfold tn at hL2; rw [if_pos (by omega), if_pos (by omega)] at hL2; exact ih _ (by omega) _ _ _ _ _ _ rfl (by omega) (by omega) hL2)
            | (unfold tn at hL2; rw [if_pos (by omega), if_neg (by omega), if_pos (by omega)] at hL2; exact ih _ (by omega) _ _ _ _ _ _ rfl (by omega) (by omega) hL2)
            | (unfold tn at hL2; rw [if_pos (by omega), if_neg (by omega), if_neg (by omega)] at hL2; exact ih _ (by omega) _ _ _ _ _ _ rfl (by omega) (by omega) hL2)
            | (unfold tn at hL2; rw [if_neg (by omega)] at hL2; exact ih _ (by omega) _ _ _ _ _ _ rfl (by omega) (by omega) hL2)
          · refine j_iload d_Mod_tells_162 rfl ?_
            refine z_if_eq (t := 209) d_Mod_tells_164 (by decide) (by first | omega | exact hw _ | exact hx _ _ | assumption) (fun _ => ?_) (fun h => absurd h (by decide))
            refine j_aload_n d_Mod_tells_209 rfl ?_
            refine j_dup d_Mod_tells_210 rfl ?_
            refine mg_go f_Mod_249 d_Mod_tells_211 ?_
            refine z_iconst d_Mod_tells_214 ?_
            refine z_iadd d_Mod_tells_215 ?_
            refine mp_go f_Mod_249 d_Mod_tells_216 ?_
            refine j_goto (t := 69) d_Mod_tells_219 (by decide) ?_
            refine SJ.mask [true, true, true, true, true, true, true, false, false, true, false, false] ?_
            show SJ _ _ _ _ [_, _, _, _, _, _, none, none, none, none, none, none] _ _ _ _ _
            first
            | (exfalso; omega)
            | (unfold tn at hL2; rw [if_pos (by omega), if_pos (by omega)] at hL2; exact ih _ (by omega) _ _ _ _ _ _ rfl (by omega) (by omega) hL2)
            | (unfold tn at hL2; rw [if_pos (by omega), if_neg (by omega), if_pos (by omega)] at hL2; exact ih _ (by omega) _ _ _ _ _ _ rfl (by omega) (by omega) hL2)
            | (unfold tn at hL2; rw [if_pos (by omega), if_neg (by omega), if_neg (by omega)] at hL2; exact ih _ (by omega) _ _ _ _ _ _ rfl (by omega) (by omega) hL2)
            | (unfold tn at hL2; rw [if_neg (by omega)] at hL2; exact ih _ (by omega) _ _ _ _ _ _ rfl (by omega) (by omega) hL2)
        · refine z_iconst d_Mod_tells_149 ?_
          refine j_goto (t := 154) d_Mod_tells_150 (by decide) ?_
          refine j_istore d_Mod_tells_154 (by decide) ?_
          show SJ _ _ _ _ [_, _, _, _, _, _, _, _, _, _, _, _] _ _ _ _ _
          refine j_iload d_Mod_tells_156 rfl ?_
          refine j_iload_n d_Mod_tells_158 rfl ?_
          refine z_icmp_ne (t := 209) d_Mod_tells_159 (by decide) (by first | omega | exact hw _ | exact hx _ _ | assumption) (by first | omega | exact hw _ | exact hx _ _ | assumption) (fun h159 => ?_) (fun h159 => ?_)
          · refine j_aload_n d_Mod_tells_209 rfl ?_
            refine j_dup d_Mod_tells_210 rfl ?_
            refine mg_go f_Mod_249 d_Mod_tells_211 ?_
            refine z_iconst d_Mod_tells_214 ?_
            refine z_iadd d_Mod_tells_215 ?_
            refine mp_go f_Mod_249 d_Mod_tells_216 ?_
            refine j_goto (t := 69) d_Mod_tells_219 (by decide) ?_
            refine SJ.mask [true, true, true, true, true, true, true, false, false, true, false, false] ?_
            show SJ _ _ _ _ [_, _, _, _, _, _, none, none, none, none, none, none] _ _ _ _ _
            first
            | (exfalso; omega)
            | (unfold tn at hL2; rw [if_pos (by omega), if_pos (by omega)] at hL2; exact ih _ (by omega) _ _ _ _ _ _ rfl (by omega) (by omega) hL2)
            | (unfold tn at hL2; rw [if_pos (by omega), if_neg (by omega), if_pos (by omega)] at hL2; exact ih _ (by omega) _ _ _ _ _ _ rfl (by omega) (by omega) hL2)
            | (unfold tn at hL2; rw [if_pos (by omega), if_neg (by omega), if_neg (by omega)] at hL2; exact ih _ (by omega) _ _ _ _ _ _ rfl (by omega) (by omega) hL2)
            | (unfold tn at hL2; rw [if_neg (by omega)] at hL2; exact ih _ (by omega) _ _ _ _ _ _ rfl (by omega) (by omega) hL2)
          · refine j_iload d_Mod_tells_162 rfl ?_
            refine z_if_eq (t := 209) d_Mod_tells_164 (by decide) (by first | omega | exact hw _ | exact hx _ _ | assumption) (fun h => absurd h (by decide)) (fun _ => ?_)
            refine j_aload_n d_Mod_tells_167 rfl ?_
            refine mg_broken f_Mod_259 d_Mod_tells_168 ?_
            refine z_if_ne (t := 209) d_Mod_tells_171 (by decide) (by first | omega | exact hw _ | exact hx _ _ | assumption) (fun h171 => ?_) (fun h171 => ?_)
            · refine j_aload_n d_Mod_tells_209 rfl ?_
              refine j_dup d_Mod_tells_210 rfl ?_
              refine mg_go f_Mod_249 d_Mod_tells_211 ?_
              refine z_iconst d_Mod_tells_214 ?_
              refine z_iadd d_Mod_tells_215 ?_
              refine mp_go f_Mod_249 d_Mod_tells_216 ?_
              refine j_goto (t := 69) d_Mod_tells_219 (by decide) ?_
              refine SJ.mask [true, true, true, true, true, true, true, false, false, true, false, false] ?_
              show SJ _ _ _ _ [_, _, _, _, _, _, none, none, none, none, none, none] _ _ _ _ _
              first
              | (exfalso; omega)
              | (unfold tn at hL2; rw [if_pos (by omega), if_pos (by omega)] at hL2; exact ih _ (by omega) _ _ _ _ _ _ rfl (by omega) (by omega) hL2)
              | (unfold tn at hL2; rw [if_pos (by omega), if_neg (by omega), if_pos (by omega)] at hL2; exact ih _ (by omega) _ _ _ _ _ _ rfl (by omega) (by omega) hL2)
              | (unfold tn at hL2; rw [if_pos (by omega), if_neg (by omega), if_neg (by omega)] at hL2; exact ih _ (by omega) _ _ _ _ _ _ rfl (by omega) (by omega) hL2)
              | (unfold tn at hL2; rw [if_neg (by omega)] at hL2; exact ih _ (by omega) _ _ _ _ _ _ rfl (by omega) (by omega) hL2)
            · refine j_iload d_Mod_tells_174 rfl ?_
              refine z_if_ne (t := 209) d_Mod_tells_176 (by decide) (by first | omega | exact hw _ | exact hx _ _ | assumption) (fun h176 => ?_) (fun h176 => ?_)
              · refine j_aload_n d_Mod_tells_209 rfl ?_
                refine j_dup d_Mod_tells_210 rfl ?_
                refine mg_go f_Mod_249 d_Mod_tells_211 ?_
                refine z_iconst d_Mod_tells_214 ?_
                refine z_iadd d_Mod_tells_215 ?_
                refine mp_go f_Mod_249 d_Mod_tells_216 ?_
                refine j_goto (t := 69) d_Mod_tells_219 (by decide) ?_
                refine SJ.mask [true, true, true, true, true, true, true, false, false, true, false, false] ?_
                show SJ _ _ _ _ [_, _, _, _, _, _, none, none, none, none, none, none] _ _ _ _ _
                first
                | (exfalso; omega)
                | (unfold tn at hL2; rw [if_pos (by omega), if_pos (by omega)] at hL2; exact ih _ (by omega) _ _ _ _ _ _ rfl (by omega) (by omega) hL2)
                | (unfold tn at hL2; rw [if_pos (by omega), if_neg (by omega), if_pos (by omega)] at hL2; exact ih _ (by omega) _ _ _ _ _ _ rfl (by omega) (by omega) hL2)
                | (unfold tn at hL2; rw [if_pos (by omega), if_neg (by omega), if_neg (by omega)] at hL2; exact ih _ (by omega) _ _ _ _ _ _ rfl (by omega) (by omega) hL2)
                | (unfold tn at hL2; rw [if_neg (by omega)] at hL2; exact ih _ (by omega) _ _ _ _ _ _ rfl (by omega) (by omega) hL2)
              · refine j_lload d_Mod_tells_179 rfl ?_
                refine z_lconst (v := 0) d_Mod_tells_181 (by decide) ?_
                refine z_lcmp_ge (t := 190) d_Mod_tells_182 d_Mod_tells_183 (by decide) (by first | omega | exact hw _ | exact hx _ _ | assumption) (by first | omega | exact hw _ | exact hx _ _ | assumption) (fun h182 => ?_) (fun h182 => ?_)
                · refine j_lload d_Mod_tells_190 rfl ?_
                  refine z_ldc2 (w := 99) d_Mod_tells_192 k_Mod_318 (by decide) ?_
                  refine z_lcmp_le (t := 205) d_Mod_tells_195 d_Mod_tells_196 (by decide) (by first | omega | exact hw _ | exact hx _ _ | assumption) (by first | omega | exact hw _ | exact hx _ _ | assumption) (fun h195 => ?_) (fun h195 => ?_)
                  · refine j_lload d_Mod_tells_205 rfl ?_
                    refine j_lstore d_Mod_tells_207 (by decide) ?_
                    show SJ _ _ _ _ [_, _, _, _, _, _, _, _, _, _, _, _] _ _ _ _ _
                    refine j_aload_n d_Mod_tells_209 rfl ?_
                    refine j_dup d_Mod_tells_210 rfl ?_
                    refine mg_go f_Mod_249 d_Mod_tells_211 ?_
                    refine z_iconst d_Mod_tells_214 ?_
                    refine z_iadd d_Mod_tells_215 ?_
                    refine mp_go f_Mod_249 d_Mod_tells_216 ?_
                    refine j_goto (t := 69) d_Mod_tells_219 (by decide) ?_
                    refine SJ.mask [true, true, true, true, true, true, true, false, false, true, false, false] ?_
                    show SJ _ _ _ _ [_, _, _, _, _, _, none, none, none, none, none, none] _ _ _ _ _
                    first
                    | (exfalso; omega)
                    | (unfold tn at hL2; rw [if_pos (by omega), if_pos (by omega)] at hL2; exact ih _ (by omega) _ _ _ _ _ _ rfl (by omega) (by omega) hL2)
                    | (unfold tn at hL2; rw [if_pos (by omega), if_neg (by omega), if_pos (by omega)] at hL2; exact ih _ (by omega) _ _ _ _ _ _ rfl (by omega) (by omega) hL2)
                    | (unfold tn at hL2; rw [if_pos (by omega), if_neg (by omega), if_neg (by omega)] at hL2; exact ih _ (by omega) _ _ _ _ _ _ rfl (by omega) (by omega) hL2)
                    | (unfold tn at hL2; rw [if_neg (by omega)] at hL2; exact ih _ (by omega) _ _ _ _ _ _ rfl (by omega) (by omega) hL2)
                  · refine z_ldc2 (w := 99) d_Mod_tells_199 k_Mod_318 (by decide) ?_
                    refine j_goto (t := 207) d_Mod_tells_202 (by decide) ?_
                    refine j_lstore d_Mod_tells_207 (by decide) ?_
                    show SJ _ _ _ _ [_, _, _, _, _, _, _, _, _, _, _, _] _ _ _ _ _
                    refine j_aload_n d_Mod_tells_209 rfl ?_
                    refine j_dup d_Mod_tells_210 rfl ?_
                    refine mg_go f_Mod_249 d_Mod_tells_211 ?_
                    refine z_iconst d_Mod_tells_214 ?_
                    refine z_iadd d_Mod_tells_215 ?_
                    refine mp_go f_Mod_249 d_Mod_tells_216 ?_
                    refine j_goto (t := 69) d_Mod_tells_219 (by decide) ?_
                    refine SJ.mask [true, true, true, true, true, true, true, false, false, true, false, false] ?_
                    show SJ _ _ _ _ [_, _, _, _, _, _, none, none, none, none, none, none] _ _ _ _ _
                    first
                    | (exfalso; omega)
                    | (unfold tn at hL2; rw [if_pos (by omega), if_pos (by omega)] at hL2; exact ih _ (by omega) _ _ _ _ _ _ rfl (by omega) (by omega) hL2)
                    | (unfold tn at hL2; rw [if_pos (by omega), if_neg (by omega), if_pos (by omega)] at hL2; exact ih _ (by omega) _ _ _ _ _ _ rfl (by omega) (by omega) hL2)
                    | (unfold tn at hL2; rw [if_pos (by omega), if_neg (by omega), if_neg (by omega)] at hL2; exact ih _ (by omega) _ _ _ _ _ _ rfl (by omega) (by omega) hL2)
                    | (unfold tn at hL2; rw [if_neg (by omega)] at hL2; exact ih _ (by omega) _ _ _ _ _ _ rfl (by omega) (by omega) hL2)
                · refine z_lconst (v := 0) d_Mod_tells_186 (by decide) ?_
                  refine j_goto (t := 207) d_Mod_tells_187 (by decide) ?_
                  refine j_lstore d_Mod_tells_207 (by decide) ?_
                  show SJ _ _ _ _ [_, _, _, _, _, _, _, _, _, _, _, _] _ _ _ _ _
                  refine j_aload_n d_Mod_tells_209 rfl ?_
                  refine j_dup d_Mod_tells_210 rfl ?_
                  refine mg_go f_Mod_249 d_Mod_tells_211 ?_
                  refine z_iconst d_Mod_tells_214 ?_
                  refine z_iadd d_Mod_tells_215 ?_
                  refine mp_go f_Mod_249 d_Mod_tells_216 ?_
                  refine j_goto (t := 69) d_Mod_tells_219 (by decide) ?_
                  refine SJ.mask [true, true, true, true, true, true, true, false, false, true, false, false] ?_
                  show SJ _ _ _ _ [_, _, _, _, _, _, none, none, none, none, none, none] _ _ _ _ _
                  first
                  | (exfalso; omega)
                  | (unfold tn at hL2; rw [if_pos (by omega), if_pos (by omega)] at hL2; exact ih _ (by omega) _ _ _ _ _ _ rfl (by omega) (by omega) hL2)
                  | (unfold tn at hL2; rw [if_pos (by omega), if_neg (by omega), if_pos (by omega)] at hL2; exact ih _ (by omega) _ _ _ _ _ _ rfl (by omega) (by omega) hL2)
                  | (unfold tn at hL2; rw [if_pos (by omega), if_neg (by omega), if_neg (by omega)] at hL2; exact ih _ (by omega) _ _ _ _ _ _ rfl (by omega) (by omega) hL2)
                  | (unfold tn at hL2; rw [if_neg (by omega)] at hL2; exact ih _ (by omega) _ _ _ _ _ _ rfl (by omega) (by omega) hL2)
      · obtain ⟨hif, hL2⟩ := (Hd.out hcas2).resolve_left (fun q => absurd q.1 (by omega))
        refine z_if_eq (t := 149) d_Mod_tells_138 (by decide) (by first | omega | exact hw _ | exact hx _ _ | assumption) (fun _ => ?_) (fun h => absurd h (by decide))
        refine z_iconst d_Mod_tells_149 ?_
        refine j_goto (t := 154) d_Mod_tells_150 (by decide) ?_
        refine j_istore d_Mod_tells_154 (by decide) ?_
        show SJ _ _ _ _ [_, _, _, _, _, _, _, _, _, _, _, _] _ _ _ _ _
        refine j_iload d_Mod_tells_156 rfl ?_
        refine j_iload_n d_Mod_tells_158 rfl ?_
        refine z_icmp_ne (t := 209) d_Mod_tells_159 (by decide) (by first | omega | exact hw _ | exact hx _ _ | assumption) (by first | omega | exact hw _ | exact hx _ _ | assumption) (fun h159 => ?_) (fun h159 => ?_)
        · refine j_aload_n d_Mod_tells_209 rfl ?_
          refine j_dup d_Mod_tells_210 rfl ?_
          refine mg_go f_Mod_249 d_Mod_tells_211 ?_
          refine z_iconst d_Mod_tells_214 ?_
          refine z_iadd d_Mod_tells_215 ?_
          refine mp_go f_Mod_249 d_Mod_tells_216 ?_
          refine j_goto (t := 69) d_Mod_tells_219 (by decide) ?_
          refine SJ.mask [true, true, true, true, true, true, true, false, false, true, false, false] ?_
          show SJ _ _ _ _ [_, _, _, _, _, _, none, none, none, none, none, none] _ _ _ _ _
          first
          | (exfalso; omega)
          | (unfold tn at hL2; rw [if_pos (by omega), if_pos (by omega)] at hL2; exact ih _ (by omega) _ _ _ _ _ _ rfl (by omega) (by omega) hL2)
          | (unfold tn at hL2; rw [if_pos (by omega), if_neg (by omega), if_pos (by omega)] at hL2; exact ih _ (by omega) _ _ _ _ _ _ rfl (by omega) (by omega) hL2)
          | (unfold tn at hL2; rw [if_pos (by omega), if_neg (by omega), if_neg (by omega)] at hL2; exact ih _ (by omega) _ _ _ _ _ _ rfl (by omega) (by omega) hL2)
          | (unfold tn at hL2; rw [if_neg (by omega)] at hL2; exact ih _ (by omega) _ _ _ _ _ _ rfl (by omega) (by omega) hL2)
        · refine j_iload d_Mod_tells_162 rfl ?_
          refine z_if_eq (t := 209) d_Mod_tells_164 (by decide) (by first | omega | exact hw _ | exact hx _ _ | assumption) (fun h => absurd h (by decide)) (fun _ => ?_)
          refine j_aload_n d_Mod_tells_167 rfl ?_
          refine mg_broken f_Mod_259 d_Mod_tells_168 ?_
          refine z_if_ne (t := 209) d_Mod_tells_171 (by decide) (by first | omega | exact hw _ | exact hx _ _ | assumption) (fun h171 => ?_) (fun h171 => ?_)
          · refine j_aload_n d_Mod_tells_209 rfl ?_
            refine j_dup d_Mod_tells_210 rfl ?_
            refine mg_go f_Mod_249 d_Mod_tells_211 ?_
            refine z_iconst d_Mod_tells_214 ?_
            refine z_iadd d_Mod_tells_215 ?_
            refine mp_go f_Mod_249 d_Mod_tells_216 ?_
            refine j_goto (t := 69) d_Mod_tells_219 (by decide) ?_
            refine SJ.mask [true, true, true, true, true, true, true, false, false, true, false, false] ?_
            show SJ _ _ _ _ [_, _, _, _, _, _, none, none, none, none, none, none] _ _ _ _ _
            first
            | (exfalso; omega)
            | (unfold tn at hL2; rw [if_pos (by omega), if_pos (by omega)] at hL2; exact ih _ (by omega) _ _ _ _ _ _ rfl (by omega) (by omega) hL2)
            | (unfold tn at hL2; rw [if_pos (by omega), if_neg (by omega), if_pos (by omega)] at hL2; exact ih _ (by omega) _ _ _ _ _ _ rfl (by omega) (by omega) hL2)
            | (unfold tn at hL2; rw [if_pos (by omega), if_neg (by omega), if_neg (by omega)] at hL2; exact ih _ (by omega) _ _ _ _ _ _ rfl (by omega) (by omega) hL2)
            | (unfold tn at hL2; rw [if_neg (by omega)] at hL2; exact ih _ (by omega) _ _ _ _ _ _ rfl (by omega) (by omega) hL2)
          · refine j_iload d_Mod_tells_174 rfl ?_
            refine z_if_ne (t := 209) d_Mod_tells_176 (by decide) (by first | omega | exact hw _ | exact hx _ _ | assumption) (fun h176 => ?_) (fun h176 => ?_)
            · refine j_aload_n d_Mod_tells_209 rfl ?_
              refine j_dup d_Mod_tells_210 rfl ?_
              refine mg_go f_Mod_249 d_Mod_tells_211 ?_
              refine z_iconst d_Mod_tells_214 ?_
              refine z_iadd d_Mod_tells_215 ?_
              refine mp_go f_Mod_249 d_Mod_tells_216 ?_
              refine j_goto (t := 69) d_Mod_tells_219 (by decide) ?_
              refine SJ.mask [true, true, true, true, true, true, true, false, false, true, false, false] ?_
              show SJ _ _ _ _ [_, _, _, _, _, _, none, none, none, none, none, none] _ _ _ _ _
              first
              | (exfalso; omega)
              | (unfold tn at hL2; rw [if_pos (by omega), if_pos (by omega)] at hL2; exact ih _ (by omega) _ _ _ _ _ _ rfl (by omega) (by omega) hL2)
              | (unfold tn at hL2; rw [if_pos (by omega), if_neg (by omega), if_pos (by omega)] at hL2; exact ih _ (by omega) _ _ _ _ _ _ rfl (by omega) (by omega) hL2)
              | (unfold tn at hL2; rw [if_pos (by omega), if_neg (by omega), if_neg (by omega)] at hL2; exact ih _ (by omega) _ _ _ _ _ _ rfl (by omega) (by omega) hL2)
              | (unfold tn at hL2; rw [if_neg (by omega)] at hL2; exact ih _ (by omega) _ _ _ _ _ _ rfl (by omega) (by omega) hL2)
            · refine j_lload d_Mod_tells_179 rfl ?_
              refine z_lconst (v := 0) d_Mod_tells_181 (by decide) ?_
              refine z_lcmp_ge (t := 190) d_Mod_tells_182 d_Mod_tells_183 (by decide) (by first | omega | exact hw _ | exact hx _ _ | assumption) (by first | omega | exact hw _ | exact hx _ _ | assumption) (fun h182 => ?_) (fun h182 => ?_)
              · refine j_lload d_Mod_tells_190 rfl ?_
                refine z_ldc2 (w := 99) d_Mod_tells_192 k_Mod_318 (by decide) ?_
                refine z_lcmp_le (t := 205) d_Mod_tells_195 d_Mod_tells_196 (by decide) (by first | omega | exact hw _ | exact hx _ _ | assumption) (by first | omega | exact hw _ | exact hx _ _ | assumption) (fun h195 => ?_) (fun h195 => ?_)
                · refine j_lload d_Mod_tells_205 rfl ?_
                  refine j_lstore d_Mod_tells_207 (by decide) ?_
                  show SJ _ _ _ _ [_, _, _, _, _, _, _, _, _, _, _, _] _ _ _ _ _
                  refine j_aload_n d_Mod_tells_209 rfl ?_
                  refine j_dup d_Mod_tells_210 rfl ?_
                  refine mg_go f_Mod_249 d_Mod_tells_211 ?_
                  refine z_iconst d_Mod_tells_214 ?_
                  refine z_iadd d_Mod_tells_215 ?_
                  refine mp_go f_Mod_249 d_Mod_tells_216 ?_
                  refine j_goto (t := 69) d_Mod_tells_219 (by decide) ?_
                  refine SJ.mask [true, true, true, true, true, true, true, false, false, true, false, false] ?_
                  show SJ _ _ _ _ [_, _, _, _, _, _, none, none, none, none, none, none] _ _ _ _ _
                  first
                  | (exfalso; omega)
                  | (unfold tn at hL2; rw [if_pos (by omega), if_pos (by omega)] at hL2; exact ih _ (by omega) _ _ _ _ _ _ rfl (by omega) (by omega) hL2)
                  | (unfold tn at hL2; rw [if_pos (by omega), if_neg (by omega), if_pos (by omega)] at hL2; exact ih _ (by omega) _ _ _ _ _ _ rfl (by omega) (by omega) hL2)
                  | (unfold tn at hL2; rw [if_pos (by omega), if_neg (by omega), if_neg (by omega)] at hL2; exact ih _ (by omega) _ _ _ _ _ _ rfl (by omega) (by omega) hL2)
                  | (unfold tn at hL2; rw [if_neg (by omega)] at hL2; exact ih _ (by omega) _ _ _ _ _ _ rfl (by omega) (by omega) hL2)
                · refine z_ldc2 (w := 99) d_Mod_tells_199 k_Mod_318 (by decide) ?_
                  refine j_goto (t := 207) d_Mod_tells_202 (by decide) ?_
                  refine j_lstore d_Mod_tells_207 (by decide) ?_
                  show SJ _ _ _ _ [_, _, _, _, _, _, _, _, _, _, _, _] _ _ _ _ _
                  refine j_aload_n d_Mod_tells_209 rfl ?_
                  refine j_dup d_Mod_tells_210 rfl ?_
                  refine mg_go f_Mod_249 d_Mod_tells_211 ?_
                  refine z_iconst d_Mod_tells_214 ?_
                  refine z_iadd d_Mod_tells_215 ?_
                  refine mp_go f_Mod_249 d_Mod_tells_216 ?_
                  refine j_goto (t := 69) d_Mod_tells_219 (by decide) ?_
                  refine SJ.mask [true, true, true, true, true, true, true, false, false, true, false, false] ?_
                  show SJ _ _ _ _ [_, _, _, _, _, _, none, none, none, none, none, none] _ _ _ _ _
                  first
                  | (exfalso; omega)
                  | (unfold tn at hL2; rw [if_pos (by omega), if_pos (by omega)] at hL2; exact ih _ (by omega) _ _ _ _ _ _ rfl (by omega) (by omega) hL2)
                  | (unfold tn at hL2; rw [if_pos (by omega), if_neg (by omega), if_pos (by omega)] at hL2; exact ih _ (by omega) _ _ _ _ _ _ rfl (by omega) (by omega) hL2)
                  | (unfold tn at hL2; rw [if_pos (by omega), if_neg (by omega), if_neg (by omega)] at hL2; exact ih _ (by omega) _ _ _ _ _ _ rfl (by omega) (by omega) hL2)
                  | (unfold tn at hL2; rw [if_neg (by omega)] at hL2; exact ih _ (by omega) _ _ _ _ _ _ rfl (by omega) (by omega) hL2)
              · refine z_lconst (v := 0) d_Mod_tells_186 (by decide) ?_
                refine j_goto (t := 207) d_Mod_tells_187 (by decide) ?_
                refine j_lstore d_Mod_tells_207 (by decide) ?_
                show SJ _ _ _ _ [_, _, _, _, _, _, _, _, _, _, _, _] _ _ _ _ _
                refine j_aload_n d_Mod_tells_209 rfl ?_
                refine j_dup d_Mod_tells_210 rfl ?_
                refine mg_go f_Mod_249 d_Mod_tells_211 ?_
                refine z_iconst d_Mod_tells_214 ?_
                refine z_iadd d_Mod_tells_215 ?_
                refine mp_go f_Mod_249 d_Mod_tells_216 ?_
                refine j_goto (t := 69) d_Mod_tells_219 (by decide) ?_
                refine SJ.mask [true, true, true, true, true, true, true, false, false, true, false, false] ?_
                show SJ _ _ _ _ [_, _, _, _, _, _, none, none, none, none, none, none] _ _ _ _ _
                first
                | (exfalso; omega)
                | (unfold tn at hL2; rw [if_pos (by omega), if_pos (by omega)] at hL2; exact ih _ (by omega) _ _ _ _ _ _ rfl (by omega) (by omega) hL2)
                | (unfold tn at hL2; rw [if_pos (by omega), if_neg (by omega), if_pos (by omega)] at hL2; exact ih _ (by omega) _ _ _ _ _ _ rfl (by omega) (by omega) hL2)
                | (unfold tn at hL2; rw [if_pos (by omega), if_neg (by omega), if_neg (by omega)] at hL2; exact ih _ (by omega) _ _ _ _ _ _ rfl (by omega) (by omega) hL2)
                | (unfold tn at hL2; rw [if_neg (by omega)] at hL2; exact ih _ (by omega) _ _ _ _ _ _ rfl (by omega) (by omega) hL2)
    · obtain ⟨rfl, rfl, rfl⟩ := h4 (by omega)
      clear h4 h5
      refine z_lconst (v := 1) d_Mod_tells_111 (by decide) ?_
      refine j_goto (t := 120) d_Mod_tells_112 (by decide) ?_
      refine j_lstore d_Mod_tells_120 (by decide) ?_
      show SJ _ _ _ _ [_, _, _, _, _, _, _, _, _, _, _, _] _ _ _ _ _
      refine j_aload_n d_Mod_tells_122 rfl ?_
      refine mg_broken f_Mod_259 d_Mod_tells_123 ?_
      refine j_istore d_Mod_tells_126 (by decide) ?_
      show SJ _ _ _ _ [_, _, _, _, _, _, _, _, _, _, _, _] _ _ _ _ _
      refine j_aload_n d_Mod_tells_128 rfl ?_
      refine z_iconst d_Mod_tells_129 ?_
      refine mp_broken f_Mod_259 d_Mod_tells_130 (by first | exact Or.inl rfl | exact Or.inr rfl | assumption | omega) ?_
      have hcr2 := cdA_R (k := go + 1) hC e1 (by omega)
      refine j_aload_n d_Mod_tells_133 rfl ?_
      refine z_iconst d_Mod_tells_134 ?_
      refine v_call1 d_Mod_tells_135 c_Mod_273 rfl ⟨_, rfl, rfl⟩ (Nat.le_of_ble_eq_true rfl) (t_Mod_passes0 hC e0 e1 (by omega) (by omega) (by omega) (fun h135 => ?_) (fun h135 => ?_))
      · refine z_if_eq (t := 149) d_Mod_tells_138 (by decide) (by first | omega | exact hw _ | exact hx _ _ | assumption) (fun h => absurd h (by decide)) (fun _ => ?_)
        obtain ⟨hif, tv, g2, b2, hT2, hg2, hv2, hb2, hL2⟩ := (Hd.out hcas2).resolve_right (fun q => q.1 (by omega))
        refine j_aload_n d_Mod_tells_141 rfl ?_
        refine z_iconst d_Mod_tells_142 ?_
        refine v_call1 d_Mod_tells_143 c_Mod_306 rfl ⟨_, rfl, rfl⟩ (Nat.le_of_ble_eq_true rfl) (hT 1 _ 0 _ _ _ _ _ _ hT2 (Or.inr rfl) (Or.inl rfl) (fun y29 y30 => ?_))
        refine z_if_eq (t := 153) d_Mod_tells_146 (by decide) (by first | omega | exact hw _ | exact hx _ _ | assumption) (fun h146 => ?_) (fun h146 => ?_)
        · refine z_iconst d_Mod_tells_153 ?_
          refine j_istore d_Mod_tells_154 (by decide) ?_
          show SJ _ _ _ _ [_, _, _, _, _, _, _, _, _, _, _, _] _ _ _ _ _
          refine j_iload d_Mod_tells_156 rfl ?_
          refine j_iload_n d_Mod_tells_158 rfl ?_
          refine z_icmp_ne (t := 209) d_Mod_tells_159 (by decide) (by first | omega | exact hw _ | exact hx _ _ | assumption) (by first | omega | exact hw _ | exact hx _ _ | assumption) (fun h159 => ?_) (fun h159 => ?_)
          · refine j_aload_n d_Mod_tells_209 rfl ?_
            refine j_dup d_Mod_tells_210 rfl ?_
            refine mg_go f_Mod_249 d_Mod_tells_211 ?_
            refine z_iconst d_Mod_tells_214 ?_
            refine z_iadd d_Mod_tells_215 ?_
            refine mp_go f_Mod_249 d_Mod_tells_216 ?_
            refine j_goto (t := 69) d_Mod_tells_219 (by decide) ?_
            refine SJ.mask [true, true, true, true, true, true, true, false, false, true, false, false] ?_
            show SJ _ _ _ _ [_, _, _, _, _, _, none, none, none, none, none, none] _ _ _ _ _
            first
            | (exfalso; omega)
            | (unfold tn at hL2; rw [if_pos (by omega), if_pos (by omega)] at hL2; exact ih _ (by omega) _ _ _ _ _ _ rfl (by omega) (by omega) hL2)
            | (unfold tn at hL2; rw [if_pos (by omega), if_neg (by omega), if_pos (by omega)] at hL2; exact ih _ (by omega) _ _ _ _ _ _ rfl (by omega) (by omega) hL2)
            | (unfold tn at hL2; rw [if_pos (by omega), if_neg (by omega), if_neg (by omega)] at hL2; exact ih _ (by omega) _ _ _ _ _ _ rfl (by omega) (by omega) hL2)
            | (unfold tn at hL2; rw [if_neg (by omega)] at hL2; exact ih _ (by omega) _ _ _ _ _ _ rfl (by omega) (by omega) hL2)
          · refine j_iload d_Mod_tells_162 rfl ?_
            refine z_if_eq (t := 209) d_Mod_tells_164 (by decide) (by first | omega | exact hw _ | exact hx _ _ | assumption) (fun _ => ?_) (fun h => absurd h (by decide))
            refine j_aload_n d_Mod_tells_209 rfl ?_
            refine j_dup d_Mod_tells_210 rfl ?_
            refine mg_go f_Mod_249 d_Mod_tells_211 ?_
            refine z_iconst d_Mod_tells_214 ?_
            refine z_iadd d_Mod_tells_215 ?_
            refine mp_go f_Mod_249 d_Mod_tells_216 ?_
            refine j_goto (t := 69) d_Mod_tells_219 (by decide) ?_
            refine SJ.mask [true, true, true, true, true, true, true, false, false, true, false, false] ?_
            show SJ _ _ _ _ [_, _, _, _, _, _, none, none, none, none, none, none] _ _ _ _ _
            first
            | (exfalso; omega)
            | (unfold tn at hL2; rw [if_pos (by omega), if_pos (by omega)] at hL2; exact ih _ (by omega) _ _ _ _ _ _ rfl (by omega) (by omega) hL2)
            | (unfold tn at hL2; rw [if_pos (by omega), if_neg (by omega), if_pos (by omega)] at hL2; exact ih _ (by omega) _ _ _ _ _ _ rfl (by omega) (by omega) hL2)
            | (unfold tn at hL2; rw [if_pos (by omega), if_neg (by omega), if_neg (by omega)] at hL2; exact ih _ (by omega) _ _ _ _ _ _ rfl (by omega) (by omega) hL2)
            | (unfold tn at hL2; rw [if_neg (by omega)] at hL2; exact ih _ (by omega) _ _ _ _ _ _ rfl (by omega) (by omega) hL2)
        · refine z_iconst d_Mod_tells_149 ?_
          refine j_goto (t := 154) d_Mod_tells_150 (by decide) ?_
          refine j_istore d_Mod_tells_154 (by decide) ?_
          show SJ _ _ _ _ [_, _, _, _, _, _, _, _, _, _, _, _] _ _ _ _ _
          refine j_iload d_Mod_tells_156 rfl ?_
          refine j_iload_n d_Mod_tells_158 rfl ?_
          refine z_icmp_ne (t := 209) d_Mod_tells_159 (by decide) (by first | omega | exact hw _ | exact hx _ _ | assumption) (by first | omega | exact hw _ | exact hx _ _ | assumption) (fun h159 => ?_) (fun h159 => ?_)
          · refine j_aload_n d_Mod_tells_209 rfl ?_
            refine j_dup d_Mod_tells_210 rfl ?_
            refine mg_go f_Mod_249 d_Mod_tells_211 ?_
            refine z_iconst d_Mod_tells_214 ?_
            refine z_iadd d_Mod_tells_215 ?_
            refine mp_go f_Mod_249 d_Mod_tells_216 ?_
            refine j_goto (t := 69) d_Mod_tells_219 (by decide) ?_
            refine SJ.mask [true, true, true, true, true, true, true, false, false, true, false, false] ?_
            show SJ _ _ _ _ [_, _, _, _, _, _, none, none, none, none, none, none] _ _ _ _ _
            first
            | (exfalso; omega)
            | (unfold tn at hL2; rw [if_pos (by omega), if_pos (by omega)] at hL2; exact ih _ (by omega) _ _ _ _ _ _ rfl (by omega) (by omega) hL2)
            | (unfold tn at hL2; rw [if_pos (by omega), if_neg (by omega), if_pos (by omega)] at hL2; exact ih _ (by omega) _ _ _ _ _ _ rfl (by omega) (by omega) hL2)
            | (unfold tn at hL2; rw [if_pos (by omega), if_neg (by omega), if_neg (by omega)] at hL2; exact ih _ (by omega) _ _ _ _ _ _ rfl (by omega) (by omega) hL2)
            | (unfold tn at hL2; rw [if_neg (by omega)] at hL2; exact ih _ (by omega) _ _ _ _ _ _ rfl (by omega) (by omega) hL2)
          · refine j_iload d_Mod_tells_162 rfl ?_
            refine z_if_eq (t := 209) d_Mod_tells_164 (by decide) (by first | omega | exact hw _ | exact hx _ _ | assumption) (fun h => absurd h (by decide)) (fun _ => ?_)
            refine j_aload_n d_Mod_tells_167 rfl ?_
            refine mg_broken f_Mod_259 d_Mod_tells_168 ?_
            refine z_if_ne (t := 209) d_Mod_tells_171 (by decide) (by first | omega | exact hw _ | exact hx _ _ | assumption) (fun h171 => ?_) (fun h171 => ?_)
            · refine j_aload_n d_Mod_tells_209 rfl ?_
              refine j_dup d_Mod_tells_210 rfl ?_
              refine mg_go f_Mod_249 d_Mod_tells_211 ?_
              refine z_iconst d_Mod_tells_214 ?_
              refine z_iadd d_Mod_tells_215 ?_
              refine mp_go f_Mod_249 d_Mod_tells_216 ?_
              refine j_goto (t := 69) d_Mod_tells_219 (by decide) ?_
              refine SJ.mask [true, true, true, true, true, true, true, false, false, true, false, false] ?_
              show SJ _ _ _ _ [_, _, _, _, _, _, none, none, none, none, none, none] _ _ _ _ _
              first
              | (exfalso; omega)
              | (unfold tn at hL2; rw [if_pos (by omega), if_pos (by omega)] at hL2; exact ih _ (by omega) _ _ _ _ _ _ rfl (by omega) (by omega) hL2)
              | (unfold tn at hL2; rw [if_pos (by omega), if_neg (by omega), if_pos (by omega)] at hL2; exact ih _ (by omega) _ _ _ _ _ _ rfl (by omega) (by omega) hL2)
              | (unfold tn at hL2; rw [if_pos (by omega), if_neg (by omega), if_neg (by omega)] at hL2; exact ih _ (by omega) _ _ _ _ _ _ rfl (by omega) (by omega) hL2)
              | (unfold tn at hL2; rw [if_neg (by omega)] at hL2; exact ih _ (by omega) _ _ _ _ _ _ rfl (by omega) (by omega) hL2)
            · refine j_iload d_Mod_tells_174 rfl ?_
              refine z_if_ne (t := 209) d_Mod_tells_176 (by decide) (by first | omega | exact hw _ | exact hx _ _ | assumption) (fun h176 => ?_) (fun h176 => ?_)
              · refine j_aload_n d_Mod_tells_209 rfl ?_
                refine j_dup d_Mod_tells_210 rfl ?_
                refine mg_go f_Mod_249 d_Mod_tells_211 ?_
                refine z_iconst d_Mod_tells_214 ?_
                refine z_iadd d_Mod_tells_215 ?_
                refine mp_go f_Mod_249 d_Mod_tells_216 ?_
                refine j_goto (t := 69) d_Mod_tells_219 (by decide) ?_
                refine SJ.mask [true, true, true, true, true, true, true, false, false, true, false, false] ?_
                show SJ _ _ _ _ [_, _, _, _, _, _, none, none, none, none, none, none] _ _ _ _ _
                first
                | (exfalso; omega)
                | (unfold tn at hL2; rw [if_pos (by omega), if_pos (by omega)] at hL2; exact ih _ (by omega) _ _ _ _ _ _ rfl (by omega) (by omega) hL2)
                | (unfold tn at hL2; rw [if_pos (by omega), if_neg (by omega), if_pos (by omega)] at hL2; exact ih _ (by omega) _ _ _ _ _ _ rfl (by omega) (by omega) hL2)
                | (unfold tn at hL2; rw [if_pos (by omega), if_neg (by omega), if_neg (by omega)] at hL2; exact ih _ (by omega) _ _ _ _ _ _ rfl (by omega) (by omega) hL2)
                | (unfold tn at hL2; rw [if_neg (by omega)] at hL2; exact ih _ (by omega) _ _ _ _ _ _ rfl (by omega) (by omega) hL2)
              · refine j_lload d_Mod_tells_179 rfl ?_
                refine z_lconst (v := 0) d_Mod_tells_181 (by decide) ?_
                refine z_lcmp_ge (t := 190) d_Mod_tells_182 d_Mod_tells_183 (by decide) (by first | omega | exact hw _ | exact hx _ _ | assumption) (by first | omega | exact hw _ | exact hx _ _ | assumption) (fun h182 => ?_) (fun h182 => ?_)
                · refine j_lload d_Mod_tells_190 rfl ?_
                  refine z_ldc2 (w := 99) d_Mod_tells_192 k_Mod_318 (by decide) ?_
                  refine z_lcmp_le (t := 205) d_Mod_tells_195 d_Mod_tells_196 (by decide) (by first | omega | exact hw _ | exact hx _ _ | assumption) (by first | omega | exact hw _ | exact hx _ _ | assumption) (fun h195 => ?_) (fun h195 => ?_)
                  · refine j_lload d_Mod_tells_205 rfl ?_
                    refine j_lstore d_Mod_tells_207 (by decide) ?_
                    show SJ _ _ _ _ [_, _, _, _, _, _, _, _, _, _, _, _] _ _ _ _ _
                    refine j_aload_n d_Mod_tells_209 rfl ?_
                    refine j_dup d_Mod_tells_210 rfl ?_
                    refine mg_go f_Mod_249 d_Mod_tells_211 ?_
                    refine z_iconst d_Mod_tells_214 ?_
                    refine z_iadd d_Mod_tells_215 ?_
                    refine mp_go f_Mod_249 d_Mod_tells_216 ?_
                    refine j_goto (t := 69) d_Mod_tells_219 (by decide) ?_
                    refine SJ.mask [true, true, true, true, true, true, true, false, false, true, false, false] ?_
                    show SJ _ _ _ _ [_, _, _, _, _, _, none, none, none, none, none, none] _ _ _ _ _
                    first
                    | (exfalso; omega)
                    | (unfold tn at hL2; rw [if_pos (by omega), if_pos (by omega)] at hL2; exact ih _ (by omega) _ _ _ _ _ _ rfl (by omega) (by omega) hL2)
                    | (unfold tn at hL2; rw [if_pos (by omega), if_neg (by omega), if_pos (by omega)] at hL2; exact ih _ (by omega) _ _ _ _ _ _ rfl (by omega) (by omega) hL2)
                    | (unfold tn at hL2; rw [if_pos (by omega), if_neg (by omega), if_neg (by omega)] at hL2; exact ih _ (by omega) _ _ _ _ _ _ rfl (by omega) (by omega) hL2)
                    | (unfold tn at hL2; rw [if_neg (by omega)] at hL2; exact ih _ (by omega) _ _ _ _ _ _ rfl (by omega) (by omega) hL2)
                  · refine z_ldc2 (w := 99) d_Mod_tells_199 k_Mod_318 (by decide) ?_
                    refine j_goto (t := 207) d_Mod_tells_202 (by decide) ?_
                    refine j_lstore d_Mod_tells_207 (by decide) ?_
                    show SJ _ _ _ _ [_, _, _, _, _, _, _, _, _, _, _, _] _ _ _ _ _
                    refine j_aload_n d_Mod_tells_209 rfl ?_
                    refine j_dup d_Mod_tells_210 rfl ?_
                    refine mg_go f_Mod_249 d_Mod_tells_211 ?_
                    refine z_iconst d_Mod_tells_214 ?_
                    refine z_iadd d_Mod_tells_215 ?_
                    refine mp_go f_Mod_249 d_Mod_tells_216 ?_
                    refine j_goto (t := 69) d_Mod_tells_219 (by decide) ?_
                    refine SJ.mask [true, true, true, true, true, true, true, false, false, true, false, false] ?_
                    show SJ _ _ _ _ [_, _, _, _, _, _, none, none, none, none, none, none] _ _ _ _ _
                    first
                    | (exfalso; omega)
                    | (unfold tn at hL2; rw [if_pos (by omega), if_pos (by omega)] at hL2; exact ih _ (by omega) _ _ _ _ _ _ rfl (by omega) (by omega) hL2)
                    | (unfold tn at hL2; rw [if_pos (by omega), if_neg (by omega), if_pos (by omega)] at hL2; exact ih _ (by omega) _ _ _ _ _ _ rfl (by omega) (by omega) hL2)
                    | (unfold tn at hL2; rw [if_pos (by omega), if_neg (by omega), if_neg (by omega)] at hL2; exact ih _ (by omega) _ _ _ _ _ _ rfl (by omega) (by omega) hL2)
                    | (unfold tn at hL2; rw [if_neg (by omega)] at hL2; exact ih _ (by omega) _ _ _ _ _ _ rfl (by omega) (by omega) hL2)
                · refine z_lconst (v := 0) d_Mod_tells_186 (by decide) ?_
                  refine j_goto (t := 207) d_Mod_tells_187 (by decide) ?_
                  refine j_lstore d_Mod_tells_207 (by decide) ?_
                  show SJ _ _ _ _ [_, _, _, _, _, _, _, _, _, _, _, _] _ _ _ _ _
                  refine j_aload_n d_Mod_tells_209 rfl ?_
                  refine j_dup d_Mod_tells_210 rfl ?_
                  refine mg_go f_Mod_249 d_Mod_tells_211 ?_
                  refine z_iconst d_Mod_tells_214 ?_
                  refine z_iadd d_Mod_tells_215 ?_
                  refine mp_go f_Mod_249 d_Mod_tells_216 ?_
                  refine j_goto (t := 69) d_Mod_tells_219 (by decide) ?_
                  refine SJ.mask [true, true, true, true, true, true, true, false, false, true, false, false] ?_
                  show SJ _ _ _ _ [_, _, _, _, _, _, none, none, none, none, none, none] _ _ _ _ _
                  first
                  | (exfalso; omega)
                  | (unfold tn at hL2; rw [if_pos (by omega), if_pos (by omega)] at hL2; exact ih _ (by omega) _ _ _ _ _ _ rfl (by omega) (by omega) hL2)
                  | (unfold tn at hL2; rw [if_pos (by omega), if_neg (by omega), if_pos (by omega)] at hL2; exact ih _ (by omega) _ _ _ _ _ _ rfl (by omega) (by omega) hL2)
                  | (unfold tn at hL2; rw [if_pos (by omega), if_neg (by omega), if_neg (by omega)] at hL2; exact ih _ (by omega) _ _ _ _ _ _ rfl (by omega) (by omega) hL2)
                  | (unfold tn at hL2; rw [if_neg (by omega)] at hL2; exact ih _ (by omega) _ _ _ _ _ _ rfl (by omega) (by omega) hL2)
      · obtain ⟨hif, hL2⟩ := (Hd.out hcas2).resolve_left (fun q => absurd q.1 (by omega))
        refine z_if_eq (t := 149) d_Mod_tells_138 (by decide) (by first | omega | exact hw _ | exact hx _ _ | assumption) (fun _ => ?_) (fun h => absurd h (by decide))
        refine z_iconst d_Mod_tells_149 ?_
        refine j_goto (t := 154) d_Mod_tells_150 (by decide) ?_
        refine j_istore d_Mod_tells_154 (by decide) ?_
        show SJ _ _ _ _ [_, _, _, _, _, _, _, _, _, _, _, _] _ _ _ _ _
        refine j_iload d_Mod_tells_156 rfl ?_
        refine j_iload_n d_Mod_tells_158 rfl ?_
        refine z_icmp_ne (t := 209) d_Mod_tells_159 (by decide) (by first | omega | exact hw _ | exact hx _ _ | assumption) (by first | omega | exact hw _ | exact hx _ _ | assumption) (fun h159 => ?_) (fun h159 => ?_)
        · refine j_aload_n d_Mod_tells_209 rfl ?_
          refine j_dup d_Mod_tells_210 rfl ?_
          refine mg_go f_Mod_249 d_Mod_tells_211 ?_
          refine z_iconst d_Mod_tells_214 ?_
          refine z_iadd d_Mod_tells_215 ?_
          refine mp_go f_Mod_249 d_Mod_tells_216 ?_
          refine j_goto (t := 69) d_Mod_tells_219 (by decide) ?_
          refine SJ.mask [true, true, true, true, true, true, true, false, false, true, false, false] ?_
          show SJ _ _ _ _ [_, _, _, _, _, _, none, none, none, none, none, none] _ _ _ _ _
          first
          | (exfalso; omega)
          | (unfold tn at hL2; rw [if_pos (by omega), if_pos (by omega)] at hL2; exact ih _ (by omega) _ _ _ _ _ _ rfl (by omega) (by omega) hL2)
          | (unfold tn at hL2; rw [if_pos (by omega), if_neg (by omega), if_pos (by omega)] at hL2; exact ih _ (by omega) _ _ _ _ _ _ rfl (by omega) (by omega) hL2)
          | (unfold tn at hL2; rw [if_pos (by omega), if_neg (by omega), if_neg (by omega)] at hL2; exact ih _ (by omega) _ _ _ _ _ _ rfl (by omega) (by omega) hL2)
          | (unfold tn at hL2; rw [if_neg (by omega)] at hL2; exact ih _ (by omega) _ _ _ _ _ _ rfl (by omega) (by omega) hL2)
        · refine j_iload d_Mod_tells_162 rfl ?_
          refine z_if_eq (t := 209) d_Mod_tells_164 (by decide) (by first | omega | exact hw _ | exact hx _ _ | assumption) (fun h => absurd h (by decide)) (fun _ => ?_)
          refine j_aload_n d_Mod_tells_167 rfl ?_
          refine mg_broken f_Mod_259 d_Mod_tells_168 ?_
          refine z_if_ne (t := 209) d_Mod_tells_171 (by decide) (by first | omega | exact hw _ | exact hx _ _ | assumption) (fun h171 => ?_) (fun h171 => ?_)
          · refine j_aload_n d_Mod_tells_209 rfl ?_
            refine j_dup d_Mod_tells_210 rfl ?_
            refine mg_go f_Mod_249 d_Mod_tells_211 ?_
            refine z_iconst d_Mod_tells_214 ?_
            refine z_iadd d_Mod_tells_215 ?_
            refine mp_go f_Mod_249 d_Mod_tells_216 ?_
            refine j_goto (t := 69) d_Mod_tells_219 (by decide) ?_
            refine SJ.mask [true, true, true, true, true, true, true, false, false, true, false, false] ?_
            show SJ _ _ _ _ [_, _, _, _, _, _, none, none, none, none, none, none] _ _ _ _ _
            first
            | (exfalso; omega)
            | (unfold tn at hL2; rw [if_pos (by omega), if_pos (by omega)] at hL2; exact ih _ (by omega) _ _ _ _ _ _ rfl (by omega) (by omega) hL2)
            | (unfold tn at hL2; rw [if_pos (by omega), if_neg (by omega), if_pos (by omega)] at hL2; exact ih _ (by omega) _ _ _ _ _ _ rfl (by omega) (by omega) hL2)
            | (unfold tn at hL2; rw [if_pos (by omega), if_neg (by omega), if_neg (by omega)] at hL2; exact ih _ (by omega) _ _ _ _ _ _ rfl (by omega) (by omega) hL2)
            | (unfold tn at hL2; rw [if_neg (by omega)] at hL2; exact ih _ (by omega) _ _ _ _ _ _ rfl (by omega) (by omega) hL2)
          · refine j_iload d_Mod_tells_174 rfl ?_
            refine z_if_ne (t := 209) d_Mod_tells_176 (by decide) (by first | omega | exact hw _ | exact hx _ _ | assumption) (fun h176 => ?_) (fun h176 => ?_)
            · refine j_aload_n d_Mod_tells_209 rfl ?_
              refine j_dup d_Mod_tells_210 rfl ?_
              refine mg_go f_Mod_249 d_Mod_tells_211 ?_
              refine z_iconst d_Mod_tells_214 ?_
              refine z_iadd d_Mod_tells_215 ?_
              refine mp_go f_Mod_249 d_Mod_tells_216 ?_
              refine j_goto (t := 69) d_Mod_tells_219 (by decide) ?_
              refine SJ.mask [true, true, true, true, true, true, true, false, false, true, false, false] ?_
              show SJ _ _ _ _ [_, _, _, _, _, _, none, none, none, none, none, none] _ _ _ _ _
              first
              | (exfalso; omega)
              | (unfold tn at hL2; rw [if_pos (by omega), if_pos (by omega)] at hL2; exact ih _ (by omega) _ _ _ _ _ _ rfl (by omega) (by omega) hL2)
              | (unfold tn at hL2; rw [if_pos (by omega), if_neg (by omega), if_pos (by omega)] at hL2; exact ih _ (by omega) _ _ _ _ _ _ rfl (by omega) (by omega) hL2)
              | (unfold tn at hL2; rw [if_pos (by omega), if_neg (by omega), if_neg (by omega)] at hL2; exact ih _ (by omega) _ _ _ _ _ _ rfl (by omega) (by omega) hL2)
              | (unfold tn at hL2; rw [if_neg (by omega)] at hL2; exact ih _ (by omega) _ _ _ _ _ _ rfl (by omega) (by omega) hL2)
            · refine j_lload d_Mod_tells_179 rfl ?_
              refine z_lconst (v := 0) d_Mod_tells_181 (by decide) ?_
              refine z_lcmp_ge (t := 190) d_Mod_tells_182 d_Mod_tells_183 (by decide) (by first | omega | exact hw _ | exact hx _ _ | assumption) (by first | omega | exact hw _ | exact hx _ _ | assumption) (fun h182 => ?_) (fun h182 => ?_)
              · refine j_lload d_Mod_tells_190 rfl ?_
                refine z_ldc2 (w := 99) d_Mod_tells_192 k_Mod_318 (by decide) ?_
                refine z_lcmp_le (t := 205) d_Mod_tells_195 d_Mod_tells_196 (by decide) (by first | omega | exact hw _ | exact hx _ _ | assumption) (by first | omega | exact hw _ | exact hx _ _ | assumption) (fun h195 => ?_) (fun h195 => ?_)
                · refine j_lload d_Mod_tells_205 rfl ?_
                  refine j_lstore d_Mod_tells_207 (by decide) ?_
                  show SJ _ _ _ _ [_, _, _, _, _, _, _, _, _, _, _, _] _ _ _ _ _
                  refine j_aload_n d_Mod_tells_209 rfl ?_
                  refine j_dup d_Mod_tells_210 rfl ?_
                  refine mg_go f_Mod_249 d_Mod_tells_211 ?_
                  refine z_iconst d_Mod_tells_214 ?_
                  refine z_iadd d_Mod_tells_215 ?_
                  refine mp_go f_Mod_249 d_Mod_tells_216 ?_
                  refine j_goto (t := 69) d_Mod_tells_219 (by decide) ?_
                  refine SJ.mask [true, true, true, true, true, true, true, false, false, true, false, false] ?_
                  show SJ _ _ _ _ [_, _, _, _, _, _, none, none, none, none, none, none] _ _ _ _ _
                  first
                  | (exfalso; omega)
                  | (unfold tn at hL2; rw [if_pos (by omega), if_pos (by omega)] at hL2; exact ih _ (by omega) _ _ _ _ _ _ rfl (by omega) (by omega) hL2)
                  | (unfold tn at hL2; rw [if_pos (by omega), if_neg (by omega), if_pos (by omega)] at hL2; exact ih _ (by omega) _ _ _ _ _ _ rfl (by omega) (by omega) hL2)
                  | (unfold tn at hL2; rw [if_pos (by omega), if_neg (by omega), if_neg (by omega)] at hL2; exact ih _ (by omega) _ _ _ _ _ _ rfl (by omega) (by omega) hL2)
                  | (unfold tn at hL2; rw [if_neg (by omega)] at hL2; exact ih _ (by omega) _ _ _ _ _ _ rfl (by omega) (by omega) hL2)
                · refine z_ldc2 (w := 99) d_Mod_tells_199 k_Mod_318 (by decide) ?_
                  refine j_goto (t := 207) d_Mod_tells_202 (by decide) ?_
                  refine j_lstore d_Mod_tells_207 (by decide) ?_
                  show SJ _ _ _ _ [_, _, _, _, _, _, _, _, _, _, _, _] _ _ _ _ _
                  refine j_aload_n d_Mod_tells_209 rfl ?_
                  refine j_dup d_Mod_tells_210 rfl ?_
                  refine mg_go f_Mod_249 d_Mod_tells_211 ?_
                  refine z_iconst d_Mod_tells_214 ?_
                  refine z_iadd d_Mod_tells_215 ?_
                  refine mp_go f_Mod_249 d_Mod_tells_216 ?_
                  refine j_goto (t := 69) d_Mod_tells_219 (by decide) ?_
                  refine SJ.mask [true, true, true, true, true, true, true, false, false, true, false, false] ?_
                  show SJ _ _ _ _ [_, _, _, _, _, _, none, none, none, none, none, none] _ _ _ _ _
                  first
                  | (exfalso; omega)
                  | (unfold tn at hL2; rw [if_pos (by omega), if_pos (by omega)] at hL2; exact ih _ (by omega) _ _ _ _ _ _ rfl (by omega) (by omega) hL2)
                  | (unfold tn at hL2; rw [if_pos (by omega), if_neg (by omega), if_pos (by omega)] at hL2; exact ih _ (by omega) _ _ _ _ _ _ rfl (by omega) (by omega) hL2)
                  | (unfold tn at hL2; rw [if_pos (by omega), if_neg (by omega), if_neg (by omega)] at hL2; exact ih _ (by omega) _ _ _ _ _ _ rfl (by omega) (by omega) hL2)
                  | (unfold tn at hL2; rw [if_neg (by omega)] at hL2; exact ih _ (by omega) _ _ _ _ _ _ rfl (by omega) (by omega) hL2)
              · refine z_lconst (v := 0) d_Mod_tells_186 (by decide) ?_
                refine j_goto (t := 207) d_Mod_tells_187 (by decide) ?_
                refine j_lstore d_Mod_tells_207 (by decide) ?_
                show SJ _ _ _ _ [_, _, _, _, _, _, _, _, _, _, _, _] _ _ _ _ _
                refine j_aload_n d_Mod_tells_209 rfl ?_
                refine j_dup d_Mod_tells_210 rfl ?_
                refine mg_go f_Mod_249 d_Mod_tells_211 ?_
                refine z_iconst d_Mod_tells_214 ?_
                refine z_iadd d_Mod_tells_215 ?_
                refine mp_go f_Mod_249 d_Mod_tells_216 ?_
                refine j_goto (t := 69) d_Mod_tells_219 (by decide) ?_
                refine SJ.mask [true, true, true, true, true, true, true, false, false, true, false, false] ?_
                show SJ _ _ _ _ [_, _, _, _, _, _, none, none, none, none, none, none] _ _ _ _ _
                first
                | (exfalso; omega)
                | (unfold tn at hL2; rw [if_pos (by omega), if_pos (by omega)] at hL2; exact ih _ (by omega) _ _ _ _ _ _ rfl (by omega) (by omega) hL2)
                | (unfold tn at hL2; rw [if_pos (by omega), if_neg (by omega), if_pos (by omega)] at hL2; exact ih _ (by omega) _ _ _ _ _ _ rfl (by omega) (by omega) hL2)
                | (unfold tn at hL2; rw [if_pos (by omega), if_neg (by omega), if_neg (by omega)] at hL2; exact ih _ (by omega) _ _ _ _ _ _ rfl (by omega) (by omega) hL2)
                | (unfold tn at hL2; rw [if_neg (by omega)] at hL2; exact ih _ (by omega) _ _ _ _ _ _ rfl (by omega) (by omega) hL2)
theorem t_Mod_tells {g : Bool} {d : Nat} {Q : List xM → Option Value → Prop} {i0 i6 i8 i9 i10 i13 i14 i18 i19 i20 i21 i22 i23 i24 i25 i27 i28 i33 i42 i43 i44 i45 i46 i47 i48 i51 i52 : Int} {x1 x2 x3 x4 x5 x7 x11 x12 x15 x16 x17 x26 x29 x30 x31 x32 x34 x35 x36 x37 x38 x39 x40 x41 x49 x50 : Int → Int} (hn0 : 0 ≤ x2 0) (hn1 : x2 0 ≤ 20) (hs : ∀ j, 0 ≤ j → j < x2 0 → 0 ≤ x2 (1 + j) ∧ x2 (1 + j) ≤ 11) (hC : ∀ k, 0 ≤ k → k < 2800 → 0 ≤ x2 (33 + k) ∧ x2 (33 + k) ≤ 400) (f0 : -1 ≤ x2 25) (f1 : x2 25 ≤ 5) (hz : ∀ k, 0 ≤ k → k ≤ 6 → 0 ≤ x2 (26 + k) ∧ x2 (26 + k) ≤ 400) {head s p wo r : Int} (rh : R32 head) (s0 : 0 ≤ s) (s1 : s ≤ 11) (w0 : 0 ≤ wo ∧ wo ≤ 99) (hT : TL x2 head s p wo = some r) (hQ : ∀ j22 j23 j24 j25 y26 y29 y30, Q (MM i0 i6 i8 i9 i10 i13 i14 i18 i19 i20 i21 j22 j23 j24 j25 i27 i28 i33 i42 i43 i44 i45 i46 i47 i48 i51 i52 x1 x2 x3 x4 x5 x7 x11 x12 x15 x16 x17 y26 y29 y30 x31 x32 x34 x35 x36 x37 x38 x39 x40 x41 x49 x50) (some (.int (ii r)))) : CT g m_Mod_tells (d + 87) [.ref 0, .int (ii head), .int (ii s), .int (ii p), .int (ii wo)] (MM i0 i6 i8 i9 i10 i13 i14 i18 i19 i20 i21 i22 i23 i24 i25 i27 i28 i33 i42 i43 i44 i45 i46 i47 i48 i51 i52 x1 x2 x3 x4 x5 x7 x11 x12 x15 x16 x17 x26 x29 x30 x31 x32 x34 x35 x36 x37 x38 x39 x40 x41 x49 x50) 0 0 Q := by
  refine CT.of (by decide) (Nat.le_of_ble_eq_true rfl) ?_
  show SJ _ _ _ _ [some (.ref 0), some (.int (ii head)), some (.int (ii s)), some (.int (ii p)), some (.int (ii wo)), none, none, none, none, none, none, none] [] _ _ _ _
  refine j_aload_n d_Mod_tells_0 rfl ?_
  refine mg_kept f_Mod_32 d_Mod_tells_1 ?_
  refine z_bipush d_Mod_tells_4 (by decide) ?_
  refine ml_kept d_Mod_tells_6 (by omega) (by omega) ?_
  refine z_iconst d_Mod_tells_7 ?_
  refine z_icmp_ne (t := 14) d_Mod_tells_8 (by decide) (by first | omega | exact hw _ | exact hx _ _ | assumption) (by first | omega | exact hw _ | exact hx _ _ | assumption) (fun h8 => ?_) (fun h8 => ?_)
  · unfold TL at hT
    rw [if_neg (by omega)] at hT
    have hzf := hz (x2 25) (by omega) (by omega)
    refine j_aload_n d_Mod_tells_14 rfl ?_
    refine j_iload_n d_Mod_tells_15 rfl ?_
    refine j_iload_n d_Mod_tells_16 rfl ?_
    refine v_call2 d_Mod_tells_17 c_Mod_315 rfl ⟨_, rfl, rfl⟩ (Nat.le_of_ble_eq_true rfl) (t_Mod_setsAsked (by omega) (by omega) ?_)
    refine j_aload_n d_Mod_tells_20 rfl ?_
    refine z_iconst d_Mod_tells_21 ?_
    refine mp_inOrders f_Mod_279 d_Mod_tells_22 (by first | exact Or.inl rfl | exact Or.inr rfl | assumption | omega) ?_
    refine j_iload d_Mod_tells_25 rfl ?_
    refine z_i2l d_Mod_tells_27 (by first | omega | exact hw _ | exact hx _ _ | assumption) ?_
    refine j_lstore d_Mod_tells_28 (by decide) ?_
    show SJ _ _ _ _ [_, _, _, _, _, _, _, _, _, _, _, _] _ _ _ _ _
    refine j_aload_n d_Mod_tells_30 rfl ?_
    refine z_sipush d_Mod_tells_31 (by decide) ?_
    refine j_aload_n d_Mod_tells_34 rfl ?_
    refine mg_kept f_Mod_32 d_Mod_tells_35 ?_
    refine z_bipush d_Mod_tells_38 (by decide) ?_
    refine ml_kept d_Mod_tells_40 (by omega) (by omega) ?_
    refine z_imul d_Mod_tells_41 ?_
    refine mp_go f_Mod_249 d_Mod_tells_42 ?_
    refine j_aload_n d_Mod_tells_45 rfl ?_
    refine j_aload_n d_Mod_tells_46 rfl ?_
    refine mg_go f_Mod_249 d_Mod_tells_47 ?_
    refine j_aload_n d_Mod_tells_50 rfl ?_
    refine mg_kept f_Mod_32 d_Mod_tells_51 ?_
    refine z_bipush d_Mod_tells_54 (by decide) ?_
    refine j_aload_n d_Mod_tells_56 rfl ?_
    refine mg_kept f_Mod_32 d_Mod_tells_57 ?_
    refine z_bipush d_Mod_tells_60 (by decide) ?_
    refine ml_kept d_Mod_tells_62 (by omega) (by omega) ?_
    refine z_iadd d_Mod_tells_63 ?_
    refine ml_kept d_Mod_tells_64 (by omega) (by omega) ?_
    refine z_iadd d_Mod_tells_65 ?_
    refine mp_goEnd f_Mod_246 d_Mod_tells_66 ?_
    have e9 : sE (cdA x2 (lwE x2)) (vlA x2) (wvM 0 (aqU x26 x2 s p) x2 i27 i28) 0 9 = lwS x2 s p := sE_congr (fun c h1 h2 => by unfold wvM; rw [if_neg (by omega)]; exact aqU_awv h1 h2) 9
    have hS := sumsOK (g := g) (d := d + 49) (i23 := lwE x2) (i25 := 0) (x26 := aqU x26 x2 s p) (i0 := i0) (i6 := i6) (i8 := i8) (i9 := i9) (i10 := i10) (i13 := i13) (i14 := i14) (i18 := i18) (i19 := i19) (i20 := i20) (i21 := i21) (i27 := i27) (i28 := i28) (i33 := i33) (i42 := i42) (i43 := i43) (i44 := i44) (i45 := i45) (i46 := i46) (i47 := i47) (i48 := i48) (i51 := i51) (i52 := i52) (x1 := x1) (x3 := x3) (x4 := x4) (x5 := x5) (x7 := x7) (x11 := x11) (x12 := x12) (x15 := x15) (x16 := x16) (x17 := x17) (x31 := x31) (x32 := x32) (x34 := x34) (x35 := x35) (x36 := x36) (x37 := x37) (x38 := x38) (x39 := x39) (x40 := x40) (x41 := x41) (x49 := x49) (x50 := x50) hn0 hn1 hs hC (by unfold lwE; omega) (by unfold lwE; omega) (Or.inl rfl) 9
    have hT2 := testsOK (g := g) (d := d) (i23 := lwE x2) (i25 := 0) (x26 := aqU x26 x2 s p) (i0 := i0) (i6 := i6) (i8 := i8) (i9 := i9) (i10 := i10) (i13 := i13) (i14 := i14) (i18 := i18) (i19 := i19) (i20 := i20) (i21 := i21) (i27 := i27) (i28 := i28) (i33 := i33) (i42 := i42) (i43 := i43) (i44 := i44) (i45 := i45) (i46 := i46) (i47 := i47) (i48 := i48) (i51 := i51) (i52 := i52) (x1 := x1) (x3 := x3) (x4 := x4) (x5 := x5) (x7 := x7) (x11 := x11) (x12 := x12) (x15 := x15) (x16 := x16) (x17 := x17) (x31 := x31) (x32 := x32) (x34 := x34) (x35 := x35) (x36 := x36) (x37 := x37) (x38 := x38) (x39 := x39) (x40 := x40) (x41 := x41) (x49 := x49) (x50 := x50) hn0 hn1 hs hC (by unfold lwE; omega) (by unfold lwE; omega) (Or.inl rfl) 9
    rw [e9] at hS hT2
    exact lp_tells (i23 := lwE x2) hC (by unfold lwE; omega) (by unfold lwE; omega) hS hT2 rh (fun j22 j24 y29 y30 => hQ _ _ _ _ _ _ _) _ 20 wo _ _ _ _ rfl w0 (by omega) hT
  · unfold TL at hT
    rw [if_pos (by omega)] at hT
    cases hT
    refine j_iload d_Mod_tells_11 rfl ?_
    exact j_ireturn rfl d_Mod_tells_13 (hQ _ _ _ _ _ _ _)
theorem t_Mod_costOf {g : Bool} {d : Nat} {Q : List xM → Option Value → Prop} {i0 i6 i8 i9 i10 i13 i14 i18 i19 i20 i21 i22 i23 i24 i25 i27 i28 i33 i42 i43 i44 i45 i46 i47 i48 i51 i52 : Int} {x1 x2 x3 x4 x5 x7 x11 x12 x15 x16 x17 x26 x29 x30 x31 x32 x34 x35 x36 x37 x38 x39 x40 x41 x49 x50 : Int → Int} (hn0 : 0 ≤ x2 0) (hn1 : x2 0 ≤ 20) (hs : ∀ j, 0 ≤ j → j < x2 0 → 0 ≤ x2 (1 + j) ∧ x2 (1 + j) ≤ 11) (hC : ∀ k, 0 ≤ k → k < 2800 → 0 ≤ x2 (33 + k) ∧ x2 (33 + k) ≤ 400) (f0 : -1 ≤ x2 25) (f1 : x2 25 ≤ 5) (hz : ∀ k, 0 ≤ k → k ≤ 6 → 0 ≤ x2 (26 + k) ∧ x2 (26 + k) ≤ 400) {s p : Int} (s0 : 0 ≤ s) (s1 : s ≤ 11) {r : Int} (hT : TL x2 1 s p 1 = some r) (hQ : ∀ j22 j23 j24 j25 y26 y29 y30, Q (MM i0 i6 i8 i9 i10 i13 i14 i18 i19 i20 i21 j22 j23 j24 j25 i27 i28 i33 i42 i43 i44 i45 i46 i47 i48 i51 i52 x1 x2 x3 x4 x5 x7 x11 x12 x15 x16 x17 y26 y29 y30 x31 x32 x34 x35 x36 x37 x38 x39 x40 x41 x49 x50) (some (.int (ii r)))) : CT g m_Mod_costOf (d + 88) [.ref 0, .int (ii s), .int (ii p)] (MM i0 i6 i8 i9 i10 i13 i14 i18 i19 i20 i21 i22 i23 i24 i25 i27 i28 i33 i42 i43 i44 i45 i46 i47 i48 i51 i52 x1 x2 x3 x4 x5 x7 x11 x12 x15 x16 x17 x26 x29 x30 x31 x32 x34 x35 x36 x37 x38 x39 x40 x41 x49 x50) 0 0 Q := by
  refine CT.of (by decide) (Nat.le_of_ble_eq_true rfl) ?_
  show SJ _ _ _ _ [some (.ref 0), some (.int (ii s)), some (.int (ii p))] [] _ _ _ _
  refine j_aload_n d_Mod_costOf_0 rfl ?_
  refine z_iconst d_Mod_costOf_1 ?_
  refine j_iload_n d_Mod_costOf_2 rfl ?_
  refine j_iload_n d_Mod_costOf_3 rfl ?_
  refine z_iconst d_Mod_costOf_4 ?_
  refine v_call4 d_Mod_costOf_5 c_Mod_320 rfl ⟨_, rfl, rfl⟩ (Nat.le_of_ble_eq_true rfl) (t_Mod_tells hn0 hn1 hs hC f0 f1 hz (by omega) (by omega) (by omega) (by omega) hT (fun j22 j23 j24 j25 y26 y29 y30 => ?_))
  exact j_ireturn rfl d_Mod_costOf_8 (hQ _ _ _ _ _ _ _)
theorem t_Mod_isBarred {g : Bool} {d : Nat} {Q : List xM → Option Value → Prop} {i0 i6 i8 i9 i10 i13 i14 i18 i19 i20 i21 i22 i23 i24 i25 i27 i28 i33 i42 i43 i44 i45 i46 i47 i48 i51 i52 : Int} {x1 x2 x3 x4 x5 x7 x11 x12 x15 x16 x17 x26 x29 x30 x31 x32 x34 x35 x36 x37 x38 x39 x40 x41 x49 x50 : Int → Int} (hn0 : 0 ≤ x2 0) (hn1 : x2 0 ≤ 20) (hs : ∀ j, 0 ≤ j → j < x2 0 → 0 ≤ x2 (1 + j) ∧ x2 (1 + j) ≤ 11) (hC : ∀ k, 0 ≤ k → k < 2800 → 0 ≤ x2 (33 + k) ∧ x2 (33 + k) ≤ 400) (f0 : -1 ≤ x2 25) (f1 : x2 25 ≤ 5) (hz : ∀ k, 0 ≤ k → k ≤ 6 → 0 ≤ x2 (26 + k) ∧ x2 (26 + k) ≤ 400) {s p : Int} (s0 : 0 ≤ s) (s1 : s ≤ 11) {r : Int} (hT : TL x2 4 s p 0 = some r) (ht : r = 1 → ∀ j22 j23 j24 j25 y26 y29 y30, Q (MM i0 i6 i8 i9 i10 i13 i14 i18 i19 i20 i21 j22 j23 j24 j25 i27 i28 i33 i42 i43 i44 i45 i46 i47 i48 i51 i52 x1 x2 x3 x4 x5 x7 x11 x12 x15 x16 x17 y26 y29 y30 x31 x32 x34 x35 x36 x37 x38 x39 x40 x41 x49 x50) (some (.int (ii 1)))) (hf : ¬ r = 1 → ∀ j22 j23 j24 j25 y26 y29 y30, Q (MM i0 i6 i8 i9 i10 i13 i14 i18 i19 i20 i21 j22 j23 j24 j25 i27 i28 i33 i42 i43 i44 i45 i46 i47 i48 i51 i52 x1 x2 x3 x4 x5 x7 x11 x12 x15 x16 x17 y26 y29 y30 x31 x32 x34 x35 x36 x37 x38 x39 x40 x41 x49 x50) (some (.int (ii 0)))) : CT g m_Mod_isBarred (d + 88) [.ref 0, .int (ii s), .int (ii p)] (MM i0 i6 i8 i9 i10 i13 i14 i18 i19 i20 i21 i22 i23 i24 i25 i27 i28 i33 i42 i43 i44 i45 i46 i47 i48 i51 i52 x1 x2 x3 x4 x5 x7 x11 x12 x15 x16 x17 x26 x29 x30 x31 x32 x34 x35 x36 x37 x38 x39 x40 x41 x49 x50) 0 0 Q := by
  refine CT.of (by decide) (Nat.le_of_ble_eq_true rfl) ?_
  show SJ _ _ _ _ [some (.ref 0), some (.int (ii s)), some (.int (ii p))] [] _ _ _ _
  refine j_aload_n d_Mod_isBarred_0 rfl ?_
  refine z_iconst d_Mod_isBarred_1 ?_
  refine j_iload_n d_Mod_isBarred_2 rfl ?_
  refine j_iload_n d_Mod_isBarred_3 rfl ?_
  refine z_iconst d_Mod_isBarred_4 ?_
  refine v_call4 d_Mod_isBarred_5 c_Mod_320 rfl ⟨_, rfl, rfl⟩ (Nat.le_of_ble_eq_true rfl) (t_Mod_tells hn0 hn1 hs hC f0 f1 hz (by omega) (by omega) (by omega) (by omega) hT (fun j22 j23 j24 j25 y26 y29 y30 => ?_))
  have hrr := TL_R hT (by omega)
  refine z_iconst d_Mod_isBarred_8 ?_
  refine z_icmp_ne (t := 16) d_Mod_isBarred_9 (by decide) (by first | omega | exact hw _ | exact hx _ _ | assumption) (by first | omega | exact hw _ | exact hx _ _ | assumption) (fun h9 => ?_) (fun h9 => ?_)
  · refine z_iconst d_Mod_isBarred_16 ?_
    exact z_zreturn rfl (Or.inl rfl) d_Mod_isBarred_17 (hf (by omega) _ _ _ _ _ _ _)
  · refine z_iconst d_Mod_isBarred_12 ?_
    refine j_goto (t := 17) d_Mod_isBarred_13 (by decide) ?_
    exact z_zreturn rfl (Or.inr rfl) d_Mod_isBarred_17 (ht (by omega) _ _ _ _ _ _ _)
theorem t_Mod_strikesFor {g : Bool} {d : Nat} {Q : List xM → Option Value → Prop} {i0 i6 i8 i9 i10 i13 i14 i18 i19 i20 i21 i22 i23 i24 i25 i27 i28 i33 i42 i43 i44 i45 i46 i47 i48 i51 i52 : Int} {x1 x2 x3 x4 x5 x7 x11 x12 x15 x16 x17 x26 x29 x30 x31 x32 x34 x35 x36 x37 x38 x39 x40 x41 x49 x50 : Int → Int} (hn0 : 0 ≤ x2 0) (hn1 : x2 0 ≤ 20) (hs : ∀ j, 0 ≤ j → j < x2 0 → 0 ≤ x2 (1 + j) ∧ x2 (1 + j) ≤ 11) (hC : ∀ k, 0 ≤ k → k < 2800 → 0 ≤ x2 (33 + k) ∧ x2 (33 + k) ≤ 400) (f0 : -1 ≤ x2 25) (f1 : x2 25 ≤ 5) (hz : ∀ k, 0 ≤ k → k ≤ 6 → 0 ≤ x2 (26 + k) ∧ x2 (26 + k) ≤ 400) {p : Int} (p0 : 0 ≤ p) (p1 : p < x2 0) {r : Int} (hT : TL x2 2 (x2 (1 + p)) p 1 = some r) (hQ : ∀ j22 j23 j24 j25 y26 y29 y30, Q (MM i0 i6 i8 i9 i10 i13 i14 i18 i19 i20 i21 j22 j23 j24 j25 i27 i28 i33 i42 i43 i44 i45 i46 i47 i48 i51 i52 x1 x2 x3 x4 x5 x7 x11 x12 x15 x16 x17 y26 y29 y30 x31 x32 x34 x35 x36 x37 x38 x39 x40 x41 x49 x50) (some (.int (ii r)))) : CT g m_Mod_strikesFor (d + 88) [.ref 0, .int (ii p)] (MM i0 i6 i8 i9 i10 i13 i14 i18 i19 i20 i21 i22 i23 i24 i25 i27 i28 i33 i42 i43 i44 i45 i46 i47 i48 i51 i52 x1 x2 x3 x4 x5 x7 x11 x12 x15 x16 x17 x26 x29 x30 x31 x32 x34 x35 x36 x37 x38 x39 x40 x41 x49 x50) 0 0 Q := by
  refine CT.of (by decide) (Nat.le_of_ble_eq_true rfl) ?_
  show SJ _ _ _ _ [some (.ref 0), some (.int (ii p))] [] _ _ _ _
  have hsp := hs p p0 p1
  refine j_aload_n d_Mod_strikesFor_0 rfl ?_
  refine z_iconst d_Mod_strikesFor_1 ?_
  refine j_aload_n d_Mod_strikesFor_2 rfl ?_
  refine j_iload_n d_Mod_strikesFor_3 rfl ?_
  refine v_call1 d_Mod_strikesFor_4 c_Mod_324 rfl ⟨_, rfl, rfl⟩ (Nat.le_of_ble_eq_true rfl) (t_Mod_signAt (by omega) (by omega) ?_)
  refine j_iload_n d_Mod_strikesFor_7 rfl ?_
  refine z_iconst d_Mod_strikesFor_8 ?_
  refine v_call4 d_Mod_strikesFor_9 c_Mod_320 rfl ⟨_, rfl, rfl⟩ (Nat.le_of_ble_eq_true rfl) (t_Mod_tells hn0 hn1 hs hC f0 f1 hz (by omega) (by omega) (by omega) (by omega) hT (fun j22 j23 j24 j25 y26 y29 y30 => ?_))
  exact j_ireturn rfl d_Mod_strikesFor_12 (hQ _ _ _ _ _ _ _)
theorem t_Mod_worthAt {g : Bool} {d : Nat} {Q : List xM → Option Value → Prop} {i0 i6 i8 i9 i10 i13 i14 i18 i19 i20 i21 i22 i23 i24 i25 i27 i28 i33 i42 i43 i44 i45 i46 i47 i48 i51 i52 : Int} {x1 x2 x3 x4 x5 x7 x11 x12 x15 x16 x17 x26 x29 x30 x31 x32 x34 x35 x36 x37 x38 x39 x40 x41 x49 x50 : Int → Int} (hn0 : 0 ≤ x2 0) (hn1 : x2 0 ≤ 20) (hs : ∀ j, 0 ≤ j → j < x2 0 → 0 ≤ x2 (1 + j) ∧ x2 (1 + j) ≤ 11) (hC : ∀ k, 0 ≤ k → k < 2800 → 0 ≤ x2 (33 + k) ∧ x2 (33 + k) ≤ 400) (f0 : -1 ≤ x2 25) (f1 : x2 25 ≤ 5) (hz : ∀ k, 0 ≤ k → k ≤ 6 → 0 ≤ x2 (26 + k) ∧ x2 (26 + k) ≤ 400) {p : Int} (p0 : 0 ≤ p) (p1 : p < x2 0) {r : Int} (hT : TL x2 3 (x2 (1 + p)) p 1 = some r) (hQ : ∀ j22 j23 j24 j25 y26 y29 y30, Q (MM i0 i6 i8 i9 i10 i13 i14 i18 i19 i20 i21 j22 j23 j24 j25 i27 i28 i33 i42 i43 i44 i45 i46 i47 i48 i51 i52 x1 x2 x3 x4 x5 x7 x11 x12 x15 x16 x17 y26 y29 y30 x31 x32 x34 x35 x36 x37 x38 x39 x40 x41 x49 x50) (some (.int (ii r)))) : CT g m_Mod_worthAt (d + 88) [.ref 0, .int (ii p)] (MM i0 i6 i8 i9 i10 i13 i14 i18 i19 i20 i21 i22 i23 i24 i25 i27 i28 i33 i42 i43 i44 i45 i46 i47 i48 i51 i52 x1 x2 x3 x4 x5 x7 x11 x12 x15 x16 x17 x26 x29 x30 x31 x32 x34 x35 x36 x37 x38 x39 x40 x41 x49 x50) 0 0 Q := by
  refine CT.of (by decide) (Nat.le_of_ble_eq_true rfl) ?_
  show SJ _ _ _ _ [some (.ref 0), some (.int (ii p))] [] _ _ _ _
  have hsp := hs p p0 p1
  refine j_aload_n d_Mod_worthAt_0 rfl ?_
  refine z_iconst d_Mod_worthAt_1 ?_
  refine j_aload_n d_Mod_worthAt_2 rfl ?_
  refine j_iload_n d_Mod_worthAt_3 rfl ?_
  refine v_call1 d_Mod_worthAt_4 c_Mod_324 rfl ⟨_, rfl, rfl⟩ (Nat.le_of_ble_eq_true rfl) (t_Mod_signAt (by omega) (by omega) ?_)
  refine j_iload_n d_Mod_worthAt_7 rfl ?_
  refine z_iconst d_Mod_worthAt_8 ?_
  refine v_call4 d_Mod_worthAt_9 c_Mod_320 rfl ⟨_, rfl, rfl⟩ (Nat.le_of_ble_eq_true rfl) (t_Mod_tells hn0 hn1 hs hC f0 f1 hz (by omega) (by omega) (by omega) (by omega) hT (fun j22 j23 j24 j25 y26 y29 y30 => ?_))
  exact j_ireturn rfl d_Mod_worthAt_12 (hQ _ _ _ _ _ _ _)
theorem t_Mod_asks {g : Bool} {d : Nat} {Q : List xM → Option Value → Prop} {i0 i6 i8 i9 i10 i13 i14 i18 i19 i20 i21 i22 i23 i24 i25 i27 i28 i33 i42 i43 i44 i45 i46 i47 i48 i51 i52 : Int} {x1 x2 x3 x4 x5 x7 x11 x12 x15 x16 x17 x26 x29 x30 x31 x32 x34 x35 x36 x37 x38 x39 x40 x41 x49 x50 : Int → Int} (hn0 : 0 ≤ x2 0) (hn1 : x2 0 ≤ 20) (hs : ∀ j, 0 ≤ j → j < x2 0 → 0 ≤ x2 (1 + j) ∧ x2 (1 + j) ≤ 11) (hC : ∀ k, 0 ≤ k → k < 2800 → 0 ≤ x2 (33 + k) ∧ x2 (33 + k) ≤ 400) (f0 : -1 ≤ x2 25) (f1 : x2 25 ≤ 5) (hz : ∀ k, 0 ≤ k → k ≤ 6 → 0 ≤ x2 (26 + k) ∧ x2 (26 + k) ≤ 400) {s p what : Int} (q1 : R32 s) (q2 : R32 p) (q3 : R32 what) {r0 r1 r2 r3 : Int} (hT0 : (0 ≤ s ∧ s ≤ 11) ∧ (0 ≤ p ∧ p ≤ x2 0) → TL x2 1 s p 1 = some r0 ∧ TL x2 2 s p 1 = some r1 ∧ TL x2 3 s p 1 = some r2 ∧ TL x2 4 s p 0 = some r3) (hQ : ∀ j22 j23 j24 j25 y26 y29 y30, Q (MM i0 i6 i8 i9 i10 i13 i14 i18 i19 i20 i21 j22 j23 j24 j25 i27 i28 i33 i42 i43 i44 i45 i46 i47 i48 i51 i52 x1 x2 x3 x4 x5 x7 x11 x12 x15 x16 x17 y26 y29 y30 x31 x32 x34 x35 x36 x37 x38 x39 x40 x41 x49 x50) (some (.int (ii (if ¬ ((0 ≤ s ∧ s ≤ 11) ∧ (0 ≤ p ∧ p ≤ x2 0)) then -1 else if what = 0 then r0 else if what = 1 then r1 else if what = 2 then r2 else if what = 3 then (if r3 = 1 then 1 else 0) else -1))))) : CT g m_Mod_asks (d + 89) [.ref 0, .int (ii s), .int (ii p), .int (ii what)] (MM i0 i6 i8 i9 i10 i13 i14 i18 i19 i20 i21 i22 i23 i24 i25 i27 i28 i33 i42 i43 i44 i45 i46 i47 i48 i51 i52 x1 x2 x3 x4 x5 x7 x11 x12 x15 x16 x17 x26 x29 x30 x31 x32 x34 x35 x36 x37 x38 x39 x40 x41 x49 x50) 0 0 Q := by
  refine CT.of (by decide) (Nat.le_of_ble_eq_true rfl) ?_
  show SJ _ _ _ _ [some (.ref 0), some (.int (ii s)), some (.int (ii p)), some (.int (ii what))] [] _ _ _ _
  refine j_iload_n d_Mod_asks_0 rfl ?_
  refine s_call1 d_Mod_asks_1 c_Mod_142 (Nat.le_of_ble_eq_true rfl) (t_Mod_isSign (by first | omega | exact hw _ | exact hx _ _ | assumption) (fun h1 => ?_) (fun h1 => ?_))
  · refine z_if_eq (t := 19) d_Mod_asks_4 (by decide) (by first | omega | exact hw _ | exact hx _ _ | assumption) (fun h => absurd h (by decide)) (fun _ => ?_)
    refine j_iload_n d_Mod_asks_7 rfl ?_
    refine z_iconst d_Mod_asks_8 ?_
    refine j_aload_n d_Mod_asks_9 rfl ?_
    refine v_call0 d_Mod_asks_10 c_Mod_125 rfl ⟨_, rfl, rfl⟩ (Nat.le_of_ble_eq_true rfl) (t_Mod_length  ?_)
    refine s_call3 d_Mod_asks_13 c_Mod_18 (Nat.le_of_ble_eq_true rfl) (t_Mod_lies (by first | omega | exact hw _ | exact hx _ _ | assumption) (by first | omega | exact hw _ | exact hx _ _ | assumption) (by first | omega | exact hw _ | exact hx _ _ | assumption) (fun h13 => ?_) (fun h13 => ?_))
    · refine z_if_ne (t := 21) d_Mod_asks_16 (by decide) (by first | omega | exact hw _ | exact hx _ _ | assumption) (fun _ => ?_) (fun h => absurd h (by decide))
      obtain ⟨hT1, hT2, hT3, hT4⟩ := hT0 (by omega)
      refine j_iload_n d_Mod_asks_21 rfl ?_
      refine z_case (0) (fun h22_0 => ?_) (fun h22_0 => ?_)
      · refine z_tabIn (t := 52) (o := 30) d_Mod_asks_22 (by first | omega | exact hw _ | exact hx _ _ | assumption) (by omega) (by omega) (by rw [h22_0]; rfl) (by decide) ?_
        refine j_aload_n d_Mod_asks_52 rfl ?_
        refine j_iload_n d_Mod_asks_53 rfl ?_
        refine j_iload_n d_Mod_asks_54 rfl ?_
        refine v_call2 d_Mod_asks_55 c_Mod_327 rfl ⟨_, rfl, rfl⟩ (Nat.le_of_ble_eq_true rfl) (t_Mod_costOf hn0 hn1 hs hC f0 f1 hz (by omega) (by omega) hT1 (fun j22 j23 j24 j25 y26 y29 y30 => ?_))
        exact z_iret rfl d_Mod_asks_58 (by first | rw [if_pos (by omega)] | ((repeat rw [if_neg (by omega)]); (try rw [if_pos (by omega)]); (try rw [if_pos (by omega)]); (try rw [if_neg (by omega)]))) (hQ _ _ _ _ _ _ _)
      refine z_case (1) (fun h22_1 => ?_) (fun h22_1 => ?_)
      · refine z_tabIn (t := 59) (o := 37) d_Mod_asks_22 (by first | omega | exact hw _ | exact hx _ _ | assumption) (by omega) (by omega) (by rw [h22_1]; rfl) (by decide) ?_
        refine j_aload_n d_Mod_asks_59 rfl ?_
        refine z_iconst d_Mod_asks_60 ?_
        refine j_iload_n d_Mod_asks_61 rfl ?_
        refine j_iload_n d_Mod_asks_62 rfl ?_
        refine z_iconst d_Mod_asks_63 ?_
        refine v_call4 d_Mod_asks_64 c_Mod_320 rfl ⟨_, rfl, rfl⟩ (Nat.le_of_ble_eq_true rfl) (t_Mod_tells hn0 hn1 hs hC f0 f1 hz (by omega) (by omega) (by omega) (by omega) hT2 (fun j22 j23 j24 j25 y26 y29 y30 => ?_))
        exact z_iret rfl d_Mod_asks_67 (by first | rw [if_pos (by omega)] | ((repeat rw [if_neg (by omega)]); (try rw [if_pos (by omega)]); (try rw [if_pos (by omega)]); (try rw [if_neg (by omega)]))) (hQ _ _ _ _ _ _ _)
      refine z_case (2) (fun h22_2 => ?_) (fun h22_2 => ?_)
      · refine z_tabIn (t := 68) (o := 46) d_Mod_asks_22 (by first | omega | exact hw _ | exact hx _ _ | assumption) (by omega) (by omega) (by rw [h22_2]; rfl) (by decide) ?_
        refine j_aload_n d_Mod_asks_68 rfl ?_
        refine z_iconst d_Mod_asks_69 ?_
        refine j_iload_n d_Mod_asks_70 rfl ?_
        refine j_iload_n d_Mod_asks_71 rfl ?_
        refine z_iconst d_Mod_asks_72 ?_
        refine v_call4 d_Mod_asks_73 c_Mod_320 rfl ⟨_, rfl, rfl⟩ (Nat.le_of_ble_eq_true rfl) (t_Mod_tells hn0 hn1 hs hC f0 f1 hz (by omega) (by omega) (by omega) (by omega) hT3 (fun j22 j23 j24 j25 y26 y29 y30 => ?_))
        exact z_iret rfl d_Mod_asks_76 (by first | rw [if_pos (by omega)] | ((repeat rw [if_neg (by omega)]); (try rw [if_pos (by omega)]); (try rw [if_pos (by omega)]); (try rw [if_neg (by omega)]))) (hQ _ _ _ _ _ _ _)
      refine z_case (3) (fun h22_3 => ?_) (fun h22_3 => ?_)
      · refine z_tabIn (t := 77) (o := 55) d_Mod_asks_22 (by first | omega | exact hw _ | exact hx _ _ | assumption) (by omega) (by omega) (by rw [h22_3]; rfl) (by decide) ?_
        refine j_aload_n d_Mod_asks_77 rfl ?_
        refine j_iload_n d_Mod_asks_78 rfl ?_
        refine j_iload_n d_Mod_asks_79 rfl ?_
        refine v_call2 d_Mod_asks_80 c_Mod_330 rfl ⟨_, rfl, rfl⟩ (Nat.le_of_ble_eq_true rfl) (t_Mod_isBarred hn0 hn1 hs hC f0 f1 hz (by omega) (by omega) hT4 (fun h80 j22 j23 j24 j25 y26 y29 y30 => ?_) (fun h80 j22 j23 j24 j25 y26 y29 y30 => ?_))
        · refine z_if_eq (t := 90) d_Mod_asks_83 (by decide) (by first | omega | exact hw _ | exact hx _ _ | assumption) (fun h => absurd h (by decide)) (fun _ => ?_)
          refine z_iconst d_Mod_asks_86 ?_
          refine j_goto (t := 91) d_Mod_asks_87 (by decide) ?_
          exact z_iret rfl d_Mod_asks_91 (by first | rw [if_pos (by omega)] | ((repeat rw [if_neg (by omega)]); (try rw [if_pos (by omega)]); (try rw [if_pos (by omega)]); (try rw [if_neg (by omega)]))) (hQ _ _ _ _ _ _ _)
        · refine z_if_eq (t := 90) d_Mod_asks_83 (by decide) (by first | omega | exact hw _ | exact hx _ _ | assumption) (fun _ => ?_) (fun h => absurd h (by decide))
          refine z_iconst d_Mod_asks_90 ?_
          exact z_iret rfl d_Mod_asks_91 (by first | rw [if_pos (by omega)] | ((repeat rw [if_neg (by omega)]); (try rw [if_pos (by omega)]); (try rw [if_pos (by omega)]); (try rw [if_neg (by omega)]))) (hQ _ _ _ _ _ _ _)
      refine z_tabOut (t := 92) d_Mod_asks_22 (by first | omega | exact hw _ | exact hx _ _ | assumption) (by omega) (by decide) ?_
      refine z_iconst d_Mod_asks_92 ?_
      exact z_iret rfl d_Mod_asks_93 (by first | rw [if_pos (by omega)] | ((repeat rw [if_neg (by omega)]); (try rw [if_pos (by omega)]); (try rw [if_pos (by omega)]); (try rw [if_neg (by omega)]))) (hQ _ _ _ _ _ _ _)
    · refine z_if_ne (t := 21) d_Mod_asks_16 (by decide) (by first | omega | exact hw _ | exact hx _ _ | assumption) (fun h => absurd h (by decide)) (fun _ => ?_)
      refine z_iconst d_Mod_asks_19 ?_
      exact z_iret rfl d_Mod_asks_20 (by first | rw [if_pos (by omega)] | ((repeat rw [if_neg (by omega)]); (try rw [if_pos (by omega)]); (try rw [if_pos (by omega)]); (try rw [if_neg (by omega)]))) (hQ _ _ _ _ _ _ _)
  · refine z_if_eq (t := 19) d_Mod_asks_4 (by decide) (by first | omega | exact hw _ | exact hx _ _ | assumption) (fun _ => ?_) (fun h => absurd h (by decide))
    refine z_iconst d_Mod_asks_19 ?_
    exact z_iret rfl d_Mod_asks_20 (by first | rw [if_pos (by omega)] | ((repeat rw [if_neg (by omega)]); (try rw [if_pos (by omega)]); (try rw [if_pos (by omega)]); (try rw [if_neg (by omega)]))) (hQ _ _ _ _ _ _ _)
