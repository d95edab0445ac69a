theorem t_Mod_goOn {g : Bool} {d : Nat} {Q : List xM → Option Value → Prop} {i0 i6 i8 i9 i10 i13 i14 i18 i19 i20 i21 i22 i23 i24 i25 i27 i28 i33 i42 i43 i44 i45 i46 i47 i48 i51 i52 : Int} {x1 x2 x3 x4 x5 x7 x11 x12 x15 x16 x17 x26 x29 x30 x31 x32 x34 x35 x36 x37 x38 x39 x40 x41 x49 x50 : Int → Int} {lf op : Int} (l0 : 0 ≤ lf) (l1 : lf ≤ 24) (r1 : R32 op) (ht : 0 ≤ op ∧ op ≤ 12 → Q (MM i0 i6 i8 i9 i10 i13 i14 i18 i19 i20 i21 i22 i23 i24 i25 i27 i28 i33 i42 i43 i44 i45 i46 i47 i48 i51 i52 x1 x2 x3 x4 x5 x7 x11 x12 x15 x16 x17 x26 x29 x30 x31 x32 x34 x35 x36 x37 x38 x39 x40 x41 x49 x50) (some (.long (ll (x38 (14 * lf + op)))))) (hf : ¬ (0 ≤ op ∧ op ≤ 12) → Q (MM i0 i6 i8 i9 i10 i13 i14 i18 i19 i20 i21 i22 i23 i24 i25 i27 i28 i33 i42 i43 i44 i45 i46 i47 i48 i51 i52 x1 x2 x3 x4 x5 x7 x11 x12 x15 x16 x17 x26 x29 x30 x31 x32 x34 x35 x36 x37 x38 x39 x40 x41 x49 x50) (some (.long (ll 0)))) : CT g m_Mod_goOn d [.ref 0, .int (ii lf), .int (ii op)] (MM i0 i6 i8 i9 i10 i13 i14 i18 i19 i20 i21 i22 i23 i24 i25 i27 i28 i33 i42 i43 i44 i45 i46 i47 i48 i51 i52 x1 x2 x3 x4 x5 x7 x11 x12 x15 x16 x17 x26 x29 x30 x31 x32 x34 x35 x36 x37 x38 x39 x40 x41 x49 x50) 0 0 Q := by
  refine CT.of (by decide) (Nat.le_of_ble_eq_true rfl) ?_
  show SJ _ _ _ _ [some (.ref 0), some (.int (ii lf)), some (.int (ii op))] [] _ _ _ _
  refine j_iload_n d_Mod_goOn_0 rfl ?_
  refine z_if_lt (t := 10) d_Mod_goOn_1 (by decide) (by first | omega | exact hw _ | exact hx _ _ | assumption) (fun h1 => ?_) (fun h1 => ?_)
  · refine z_lconst (v := 0) d_Mod_goOn_10 (by decide) ?_
    refine j_goto (t := 25) d_Mod_goOn_11 (by decide) ?_
    first | exact j_lreturn rfl d_Mod_goOn_25 (hf (by omega)) | exact j_lreturn rfl d_Mod_goOn_25 (ht (by omega))
  · refine j_iload_n d_Mod_goOn_4 rfl ?_
    refine z_bipush d_Mod_goOn_5 (by decide) ?_
    refine z_icmp_le (t := 14) d_Mod_goOn_7 (by decide) (by first | omega | exact hw _ | exact hx _ _ | assumption) (by first | omega | exact hw _ | exact hx _ _ | assumption) (fun h7 => ?_) (fun h7 => ?_)
    · refine j_aload_n d_Mod_goOn_14 rfl ?_
      refine mg_goesOn0 f_Mod_94 d_Mod_goOn_15 ?_
      refine z_bipush d_Mod_goOn_18 (by decide) ?_
      refine j_iload_n d_Mod_goOn_20 rfl ?_
      refine z_imul d_Mod_goOn_21 ?_
      refine j_iload_n d_Mod_goOn_22 rfl ?_
      refine z_iadd d_Mod_goOn_23 ?_
      refine ml_goesOn0 d_Mod_goOn_24 (by omega) (by omega) ?_
      first | exact j_lreturn rfl d_Mod_goOn_25 (hf (by omega)) | exact j_lreturn rfl d_Mod_goOn_25 (ht (by omega))
    · refine z_lconst (v := 0) d_Mod_goOn_10 (by decide) ?_
      refine j_goto (t := 25) d_Mod_goOn_11 (by decide) ?_
      first | exact j_lreturn rfl d_Mod_goOn_25 (hf (by omega)) | exact j_lreturn rfl d_Mod_goOn_25 (ht (by omega))
theorem lp_laysRows2 {g : Bool} {d : Nat} {Q : List xM → Option Value → Prop} {i0 i6 i8 i9 i10 i13 i14 i18 i19 i20 i21 i22 i23 i24 i25 i27 i28 i33 i42 i43 i44 i45 i46 i47 i48 i51 i52 : Int} {x1 x2 x3 x4 x5 x7 x11 x12 x15 x16 x17 x26 x29 x30 x31 x32 x34 x35 x36 x37 x39 x40 x41 x49 x50 : Int → Int} {n deep : Int} (n0 : 0 ≤ n) (n1 : n ≤ 12) (d0 : 0 ≤ deep) (d1 : deep ≤ 12) {lf : Int} (l0 : 0 ≤ lf) (l1 : lf ≤ 2 * n) (hk : ∀ z, (∀ a b, 0 ≤ a → a < lf + 1 → 0 ≤ b → b ≤ 12 → z (14 * a + b) = Wd deep a b) → SJ g m_Mod_laysRows (d + 1) 2 [some (.ref 0), some (.int (ii n)), some (.int (ii deep)), some (.int (ii (lf + 1))), none, none, none] [] (MM i0 i6 i8 i9 i10 i13 i14 i18 i19 i20 i21 i22 i23 i24 i25 i27 i28 i33 i42 i43 i44 i45 i46 i47 i48 i51 i52 x1 x2 x3 x4 x5 x7 x11 x12 x15 x16 x17 x26 x29 x30 x31 x32 x34 x35 x36 x37 z x39 x40 x41 x49 x50) 0 0 Q) : ∀ (nn : Nat) (op : Int) (z : Int → Int), (13 - op).toNat = nn → 0 ≤ op → op ≤ 13 → (∀ a b, 0 ≤ a → a < lf → 0 ≤ b → b ≤ 12 → z (14 * a + b) = Wd deep a b) → (∀ b, 0 ≤ b → b < op → z (14 * lf + b) = Wd deep lf b) → SJ g m_Mod_laysRows (d + 1) 12 [some (.ref 0), some (.int (ii n)), some (.int (ii deep)), some (.int (ii lf)), some (.int (ii op)), none, none] [] (MM i0 i6 i8 i9 i10 i13 i14 i18 i19 i20 i21 i22 i23 i24 i25 i27 i28 i33 i42 i43 i44 i45 i46 i47 i48 i51 i52 x1 x2 x3 x4 x5 x7 x11 x12 x15 x16 x17 x26 x29 x30 x31 x32 x34 x35 x36 x37 z x39 x40 x41 x49 x50) 0 0 Q := by
  intro nn
  induction nn using Nat.strongRecOn with
  | ind nn ih =>
  intro op z hn o0 o1 b1 b2
  refine j_iload d_Mod_laysRows_12 rfl ?_
  refine z_bipush d_Mod_laysRows_14 (by decide) ?_
  refine z_icmp_gt (t := 105) d_Mod_laysRows_16 (by decide) (by first | omega | exact hw _ | exact hx _ _ | assumption) (by first | omega | exact hw _ | exact hx _ _ | assumption) (fun h16 => ?_) (fun h16 => ?_)
  · refine z_iinc d_Mod_laysRows_105 rfl (by decide) ?_
    show SJ _ _ _ _ [_, _, _, _, _, _, _] _ _ _ _ _
    refine j_goto (t := 2) d_Mod_laysRows_108 (by decide) ?_
    refine SJ.mask [true, true, true, true, false, false, false] ?_
    show SJ _ _ _ _ [_, _, _, _, none, none, none] _ _ _ _ _
    refine hk z (fun a b h1 h2 h3 h4 => ?_)
    by_cases e : a = lf
    · subst e
      exact b2 b h3 (by omega)
    · exact b1 a b h1 (by omega) h3 h4
  · refine j_iload_n d_Mod_laysRows_19 rfl ?_
    refine z_if_ne (t := 36) d_Mod_laysRows_20 (by decide) (by first | omega | exact hw _ | exact hx _ _ | assumption) (fun h20 => ?_) (fun h20 => ?_)
    · refine j_aload_n d_Mod_laysRows_36 rfl ?_
      refine j_iload_n d_Mod_laysRows_37 rfl ?_
      refine z_iconst d_Mod_laysRows_38 ?_
      refine z_isub d_Mod_laysRows_39 ?_
      refine j_iload d_Mod_laysRows_40 rfl ?_
      refine z_iconst d_Mod_laysRows_42 ?_
      refine z_isub d_Mod_laysRows_43 ?_
      refine v_call2 d_Mod_laysRows_44 c_Mod_414 rfl ⟨_, rfl, rfl⟩ (Nat.le_of_ble_eq_true rfl) (t_Mod_goOn (by omega) (by omega) (by omega) (fun h44 => ?_) (fun h44 => ?_))
      · refine j_iload d_Mod_laysRows_47 rfl ?_
        refine j_iload_n d_Mod_laysRows_49 rfl ?_
        refine z_icmp_ge (t := 71) d_Mod_laysRows_50 (by decide) (by first | omega | exact hw _ | exact hx _ _ | assumption) (by first | omega | exact hw _ | exact hx _ _ | assumption) (fun h50 => ?_) (fun h50 => ?_)
        · refine z_lconst (v := 0) d_Mod_laysRows_71 (by decide) ?_
          refine z_ladd d_Mod_laysRows_72 ?_
          refine j_lstore d_Mod_laysRows_73 (by decide) ?_
          show SJ _ _ _ _ [_, _, _, _, _, _, _] _ _ _ _ _
          refine j_aload_n d_Mod_laysRows_75 rfl ?_
          refine mg_goesOn0 f_Mod_94 d_Mod_laysRows_76 ?_
          refine z_bipush d_Mod_laysRows_79 (by decide) ?_
          refine j_iload_n d_Mod_laysRows_81 rfl ?_
          refine z_imul d_Mod_laysRows_82 ?_
          refine j_iload d_Mod_laysRows_83 rfl ?_
          refine z_iadd d_Mod_laysRows_85 ?_
          refine j_iload d_Mod_laysRows_86 rfl ?_
          refine j_iload_n d_Mod_laysRows_88 rfl ?_
          refine z_icmp_le (t := 96) d_Mod_laysRows_89 (by decide) (by first | omega | exact hw _ | exact hx _ _ | assumption) (by first | omega | exact hw _ | exact hx _ _ | assumption) (fun h89 => ?_) (fun h89 => ?_)
          · refine j_lload d_Mod_laysRows_96 rfl ?_
            refine ms_goesOn0 d_Mod_laysRows_98 (by omega) (by omega) ?_
            refine z_iinc d_Mod_laysRows_99 rfl (by decide) ?_
            show SJ _ _ _ _ [_, _, _, _, _, _, _] _ _ _ _ _
            refine j_goto (t := 12) d_Mod_laysRows_102 (by decide) ?_
            refine SJ.mask [true, true, true, true, true, false, true] ?_
            show SJ _ _ _ _ [_, _, _, _, _, none, none] _ _ _ _ _
            first
            | (exfalso; omega)
            | exact ih _ (by omega) _ _ rfl (by omega) (by omega) (by intro a b h1 h2 h3 h4; rw [up_ne (by omega)]; exact b1 a b h1 h2 h3 h4) (by intro b h1 h2; by_cases e : b = op; (subst e; rw [up_eq]; first | (rw [show lf = 0 by omega, Wd_0]; first | rw [if_pos (by omega)] | rw [if_neg (by omega)]) | (rw [Wd_out (by omega) (by omega) (by omega)]) | (rw [Wd_s (by omega), if_neg (by omega)]; first | rw [if_pos (by omega), if_pos (by omega), b1 _ _ (by omega) (by omega) (by omega) (by omega), b1 _ _ (by omega) (by omega) (by omega) (by omega)] | rw [if_neg (by omega), if_pos (by omega), b1 _ _ (by omega) (by omega) (by omega) (by omega)] | rw [if_pos (by omega), if_neg (by omega), b1 _ _ (by omega) (by omega) (by omega) (by omega)] | rw [if_neg (by omega), if_neg (by omega)])); (rw [up_ne (by omega)]; exact b2 b h1 (by omega)))
          · refine z_lconst (v := 0) d_Mod_laysRows_92 (by decide) ?_
            refine j_goto (t := 98) d_Mod_laysRows_93 (by decide) ?_
            refine ms_goesOn0 d_Mod_laysRows_98 (by omega) (by omega) ?_
            refine z_iinc d_Mod_laysRows_99 rfl (by decide) ?_
            show SJ _ _ _ _ [_, _, _, _, _, _, _] _ _ _ _ _
            refine j_goto (t := 12) d_Mod_laysRows_102 (by decide) ?_
            refine SJ.mask [true, true, true, true, true, false, true] ?_
            show SJ _ _ _ _ [_, _, _, _, _, none, none] _ _ _ _ _
            first
            | (exfalso; omega)
            | exact ih _ (by omega) _ _ rfl (by omega) (by omega) (by intro a b h1 h2 h3 h4; rw [up_ne (by omega)]; exact b1 a b h1 h2 h3 h4) (by intro b h1 h2; by_cases e : b = op; (subst e; rw [up_eq]; first | (rw [show lf = 0 by omega, Wd_0]; first | rw [if_pos (by omega)] | rw [if_neg (by omega)]) | (rw [Wd_out (by omega) (by omega) (by omega)]) | (rw [Wd_s (by omega), if_neg (by omega)]; first | rw [if_pos (by omega), if_pos (by omega), b1 _ _ (by omega) (by omega) (by omega) (by omega), b1 _ _ (by omega) (by omega) (by omega) (by omega)] | rw [if_neg (by omega), if_pos (by omega), b1 _ _ (by omega) (by omega) (by omega) (by omega)] | rw [if_pos (by omega), if_neg (by omega), b1 _ _ (by omega) (by omega) (by omega) (by omega)] | rw [if_neg (by omega), if_neg (by omega)])); (rw [up_ne (by omega)]; exact b2 b h1 (by omega)))
        · refine z_ldc2 (w := 3) d_Mod_laysRows_53 k_Mod_418 (by decide) ?_
          refine j_aload_n d_Mod_laysRows_56 rfl ?_
          refine j_iload_n d_Mod_laysRows_57 rfl ?_
          refine z_iconst d_Mod_laysRows_58 ?_
          refine z_isub d_Mod_laysRows_59 ?_
          refine j_iload d_Mod_laysRows_60 rfl ?_
          refine z_iconst d_Mod_laysRows_62 ?_
          refine z_iadd d_Mod_laysRows_63 ?_
          refine v_call2 d_Mod_laysRows_64 c_Mod_414 rfl ⟨_, rfl, rfl⟩ (Nat.le_of_ble_eq_true rfl) (t_Mod_goOn (by omega) (by omega) (by omega) (fun h64 => ?_) (fun h64 => ?_))
          · refine z_lmul d_Mod_laysRows_67 ?_
            refine j_goto (t := 72) d_Mod_laysRows_68 (by decide) ?_
            refine z_ladd d_Mod_laysRows_72 ?_
            refine j_lstore d_Mod_laysRows_73 (by decide) ?_
            show SJ _ _ _ _ [_, _, _, _, _, _, _] _ _ _ _ _
            refine j_aload_n d_Mod_laysRows_75 rfl ?_
            refine mg_goesOn0 f_Mod_94 d_Mod_laysRows_76 ?_
            refine z_bipush d_Mod_laysRows_79 (by decide) ?_
            refine j_iload_n d_Mod_laysRows_81 rfl ?_
            refine z_imul d_Mod_laysRows_82 ?_
            refine j_iload d_Mod_laysRows_83 rfl ?_
            refine z_iadd d_Mod_laysRows_85 ?_
            refine j_iload d_Mod_laysRows_86 rfl ?_
            refine j_iload_n d_Mod_laysRows_88 rfl ?_
            refine z_icmp_le (t := 96) d_Mod_laysRows_89 (by decide) (by first | omega | exact hw _ | exact hx _ _ | assumption) (by first | omega | exact hw _ | exact hx _ _ | assumption) (fun h89 => ?_) (fun h89 => ?_)
            · refine j_lload d_Mod_laysRows_96 rfl ?_
              refine ms_goesOn0 d_Mod_laysRows_98 (by omega) (by omega) ?_
              refine z_iinc d_Mod_laysRows_99 rfl (by decide) ?_
              show SJ _ _ _ _ [_, _, _, _, _, _, _] _ _ _ _ _
              refine j_goto (t := 12) d_Mod_laysRows_102 (by decide) ?_
              refine SJ.mask [true, true, true, true, true, false, true] ?_
              show SJ _ _ _ _ [_, _, _, _, _, none, none] _ _ _ _ _
              first
              | (exfalso; omega)
              | exact ih _ (by omega) _ _ rfl (by omega) (by omega) (by intro a b h1 h2 h3 h4; rw [up_ne (by omega)]; exact b1 a b h1 h2 h3 h4) (by intro b h1 h2; by_cases e : b = op; (subst e; rw [up_eq]; first | (rw [show lf = 0 by omega, Wd_0]; first | rw [if_pos (by omega)] | rw [if_neg (by omega)]) | (rw [Wd_out (by omega) (by omega) (by omega)]) | (rw [Wd_s (by omega), if_neg (by omega)]; first | rw [if_pos (by omega), if_pos (by omega), b1 _ _ (by omega) (by omega) (by omega) (by omega), b1 _ _ (by omega) (by omega) (by omega) (by omega)] | rw [if_neg (by omega), if_pos (by omega), b1 _ _ (by omega) (by omega) (by omega) (by omega)] | rw [if_pos (by omega), if_neg (by omega), b1 _ _ (by omega) (by omega) (by omega) (by omega)] | rw [if_neg (by omega), if_neg (by omega)])); (rw [up_ne (by omega)]; exact b2 b h1 (by omega)))
            · refine z_lconst (v := 0) d_Mod_laysRows_92 (by decide) ?_
              refine j_goto (t := 98) d_Mod_laysRows_93 (by decide) ?_
              refine ms_goesOn0 d_Mod_laysRows_98 (by omega) (by omega) ?_
              refine z_iinc d_Mod_laysRows_99 rfl (by decide) ?_
              show SJ _ _ _ _ [_, _, _, _, _, _, _] _ _ _ _ _
              refine j_goto (t := 12) d_Mod_laysRows_102 (by decide) ?_
              refine SJ.mask [true, true, true, true, true, false, true] ?_
              show SJ _ _ _ _ [_, _, _, _, _, none, none] _ _ _ _ _
              first
              | (exfalso; omega)
              | exact ih _ (by omega) _ _ rfl (by omega) (by omega) (by intro a b h1 h2 h3 h4; rw [up_ne (by omega)]; exact b1 a b h1 h2 h3 h4) (by intro b h1 h2; by_cases e : b = op; (subst e; rw [up_eq]; first | (rw [show lf = 0 by omega, Wd_0]; first | rw [if_pos (by omega)] | rw [if_neg (by omega)]) | (rw [Wd_out (by omega) (by omega) (by omega)]) | (rw [Wd_s (by omega), if_neg (by omega)]; first | rw [if_pos (by omega), if_pos (by omega), b1 _ _ (by omega) (by omega) (by omega) (by omega), b1 _ _ (by omega) (by omega) (by omega) (by omega)] | rw [if_neg (by omega), if_pos (by omega), b1 _ _ (by omega) (by omega) (by omega) (by omega)] | rw [if_pos (by omega), if_neg (by omega), b1 _ _ (by omega) (by omega) (by omega) (by omega)] | rw [if_neg (by omega), if_neg (by omega)])); (rw [up_ne (by omega)]; exact b2 b h1 (by omega)))
          · refine z_lmul d_Mod_laysRows_67 ?_
            refine j_goto (t := 72) d_Mod_laysRows_68 (by decide) ?_
            refine z_ladd d_Mod_laysRows_72 ?_
            refine j_lstore d_Mod_laysRows_73 (by decide) ?_
            show SJ _ _ _ _ [_, _, _, _, _, _, _] _ _ _ _ _
            refine j_aload_n d_Mod_laysRows_75 rfl ?_
            refine mg_goesOn0 f_Mod_94 d_Mod_laysRows_76 ?_
            refine z_bipush d_Mod_laysRows_79 (by decide) ?_
            refine j_iload_n d_Mod_laysRows_81 rfl ?_
            refine z_imul d_Mod_laysRows_82 ?_
            refine j_iload d_Mod_laysRows_83 rfl ?_
            refine z_iadd d_Mod_laysRows_85 ?_
            refine j_iload d_Mod_laysRows_86 rfl ?_
            refine j_iload_n d_Mod_laysRows_88 rfl ?_
            refine z_icmp_le (t := 96) d_Mod_laysRows_89 (by decide) (by first | omega | exact hw _ | exact hx _ _ | assumption) (by first | omega | exact hw _ | exact hx _ _ | assumption) (fun h89 => ?_) (fun h89 => ?_)
            · refine j_lload d_Mod_laysRows_96 rfl ?_
              refine ms_goesOn0 d_Mod_laysRows_98 (by omega) (by omega) ?_
              refine z_iinc d_Mod_laysRows_99 rfl (by decide) ?_
              show SJ _ _ _ _ [_, _, _, _, _, _, _] _ _ _ _ _
              refine j_goto (t := 12) d_Mod_laysRows_102 (by decide) ?_
              refine SJ.mask [true, true, true, true, true, false, true] ?_
              show SJ _ _ _ _ [_, _, _, _, _, none, none] _ _ _ _ _
              first
              | (exfalso; omega)
              | exact ih _ (by omega) _ _ rfl (by omega) (by omega) (by intro a b h1 h2 h3 h4; rw [up_ne (by omega)]; exact b1 a b h1 h2 h3 h4) (by intro b h1 h2; by_cases e : b = op; (subst e; rw [up_eq]; first | (rw [show lf = 0 by omega, Wd_0]; first | rw [if_pos (by omega)] | rw [if_neg (by omega)]) | (rw [Wd_out (by omega) (by omega) (by omega)]) | (rw [Wd_s (by omega), if_neg (by omega)]; first | rw [if_pos (by omega), if_pos (by omega), b1 _ _ (by omega) (by omega) (by omega) (by omega), b1 _ _ (by omega) (by omega) (by omega) (by omega)] | rw [if_neg (by omega), if_pos (by omega), b1 _ _ (by omega) (by omega) (by omega) (by omega)] | rw [if_pos (by omega), if_neg (by omega), b1 _ _ (by omega) (by omega) (by omega) (by omega)] | rw [if_neg (by omega), if_neg (by omega)])); (rw [up_ne (by omega)]; exact b2 b h1 (by omega)))
            · refine z_lconst (v := 0) d_Mod_laysRows_92 (by decide) ?_
              refine j_goto (t := 98) d_Mod_laysRows_93 (by decide) ?_
              refine ms_goesOn0 d_Mod_laysRows_98 (by omega) (by omega) ?_
              refine z_iinc d_Mod_laysRows_99 rfl (by decide) ?_
              show SJ _ _ _ _ [_, _, _, _, _, _, _] _ _ _ _ _
              refine j_goto (t := 12) d_Mod_laysRows_102 (by decide) ?_
              refine SJ.mask [true, true, true, true, true, false, true] ?_
              show SJ _ _ _ _ [_, _, _, _, _, none, none] _ _ _ _ _
              first
              | (exfalso; omega)
              | exact ih _ (by omega) _ _ rfl (by omega) (by omega) (by intro a b h1 h2 h3 h4; rw [up_ne (by omega)]; exact b1 a b h1 h2 h3 h4) (by intro b h1 h2; by_cases e : b = op; (subst e; rw [up_eq]; first | (rw [show lf = 0 by omega, Wd_0]; first | rw [if_pos (by omega)] | rw [if_neg (by omega)]) | (rw [Wd_out (by omega) (by omega) (by omega)]) | (rw [Wd_s (by omega), if_neg (by omega)]; first | rw [if_pos (by omega), if_pos (by omega), b1 _ _ (by omega) (by omega) (by omega) (by omega), b1 _ _ (by omega) (by omega) (by omega) (by omega)] | rw [if_neg (by omega), if_pos (by omega), b1 _ _ (by omega) (by omega) (by omega) (by omega)] | rw [if_pos (by omega), if_neg (by omega), b1 _ _ (by omega) (by omega) (by omega) (by omega)] | rw [if_neg (by omega), if_neg (by omega)])); (rw [up_ne (by omega)]; exact b2 b h1 (by omega)))
      · refine j_iload d_Mod_laysRows_47 rfl ?_
        refine j_iload_n d_Mod_laysRows_49 rfl ?_
        refine z_icmp_ge (t := 71) d_Mod_laysRows_50 (by decide) (by first | omega | exact hw _ | exact hx _ _ | assumption) (by first | omega | exact hw _ | exact hx _ _ | assumption) (fun h50 => ?_) (fun h50 => ?_)
        · refine z_lconst (v := 0) d_Mod_laysRows_71 (by decide) ?_
          refine z_ladd d_Mod_laysRows_72 ?_
          refine j_lstore d_Mod_laysRows_73 (by decide) ?_
          show SJ _ _ _ _ [_, _, _, _, _, _, _] _ _ _ _ _
          refine j_aload_n d_Mod_laysRows_75 rfl ?_
          refine mg_goesOn0 f_Mod_94 d_Mod_laysRows_76 ?_
          refine z_bipush d_Mod_laysRows_79 (by decide) ?_
          refine j_iload_n d_Mod_laysRows_81 rfl ?_
          refine z_imul d_Mod_laysRows_82 ?_
          refine j_iload d_Mod_laysRows_83 rfl ?_
          refine z_iadd d_Mod_laysRows_85 ?_
          refine j_iload d_Mod_laysRows_86 rfl ?_
          refine j_iload_n d_Mod_laysRows_88 rfl ?_
          refine z_icmp_le (t := 96) d_Mod_laysRows_89 (by decide) (by first | omega | exact hw _ | exact hx _ _ | assumption) (by first | omega | exact hw _ | exact hx _ _ | assumption) (fun h89 => ?_) (fun h89 => ?_)
          · refine j_lload d_Mod_laysRows_96 rfl ?_
            refine ms_goesOn0 d_Mod_laysRows_98 (by omega) (by omega) ?_
            refine z_iinc d_Mod_laysRows_99 rfl (by decide) ?_
            show SJ _ _ _ _ [_, _, _, _, _, _, _] _ _ _ _ _
            refine j_goto (t := 12) d_Mod_laysRows_102 (by decide) ?_
            refine SJ.mask [true, true, true, true, true, false, true] ?_
            show SJ _ _ _ _ [_, _, _, _, _, none, none] _ _ _ _ _
            first
            | (exfalso; omega)
            | exact ih _ (by omega) _ _ rfl (by omega) (by omega) (by intro a b h1 h2 h3 h4; rw [up_ne (by omega)]; exact b1 a b h1 h2 h3 h4) (by intro b h1 h2; by_cases e : b = op; (subst e; rw [up_eq]; first | (rw [show lf = 0 by omega, Wd_0]; first | rw [if_pos (by omega)] | rw [if_neg (by omega)]) | (rw [Wd_out (by omega) (by omega) (by omega)]) | (rw [Wd_s (by omega), if_neg (by omega)]; first | rw [if_pos (by omega), if_pos (by omega), b1 _ _ (by omega) (by omega) (by omega) (by omega), b1 _ _ (by omega) (by omega) (by omega) (by omega)] | rw [if_neg (by omega), if_pos (by omega), b1 _ _ (by omega) (by omega) (by omega) (by omega)] | rw [if_pos (by omega), if_neg (by omega), b1 _ _ (by omega) (by omega) (by omega) (by omega)] | rw [if_neg (by omega), if_neg (by omega)])); (rw [up_ne (by omega)]; exact b2 b h1 (by omega)))
          · refine z_lconst (v := 0) d_Mod_laysRows_92 (by decide) ?_
            refine j_goto (t := 98) d_Mod_laysRows_93 (by decide) ?_
            refine ms_goesOn0 d_Mod_laysRows_98 (by omega) (by omega) ?_
            refine z_iinc d_Mod_laysRows_99 rfl (by decide) ?_
            show SJ _ _ _ _ [_, _, _, _, _, _, _] _ _ _ _ _
            refine j_goto (t := 12) d_Mod_laysRows_102 (by decide) ?_
            refine SJ.mask [true, true, true, true, true, false, true] ?_
            show SJ _ _ _ _ [_, _, _, _, _, none, none] _ _ _ _ _
            first
            | (exfalso; omega)
            | exact ih _ (by omega) _ _ rfl (by omega) (by omega) (by intro a b h1 h2 h3 h4; rw [up_ne (by omega)]; exact b1 a b h1 h2 h3 h4) (by intro b h1 h2; by_cases e : b = op; (subst e; rw [up_eq]; first | (rw [show lf = 0 by omega, Wd_0]; first | rw [if_pos (by omega)] | rw [if_neg (by omega)]) | (rw [Wd_out (by omega) (by omega) (by omega)]) | (rw [Wd_s (by omega), if_neg (by omega)]; first | rw [if_pos (by omega), if_pos (by omega), b1 _ _ (by omega) (by omega) (by omega) (by omega), b1 _ _ (by omega) (by omega) (by omega) (by omega)] | rw [if_neg (by omega), if_pos (by omega), b1 _ _ (by omega) (by omega) (by omega) (by omega)] | rw [if_pos (by omega), if_neg (by omega), b1 _ _ (by omega) (by omega) (by omega) (by omega)] | rw [if_neg (by omega), if_neg (by omega)])); (rw [up_ne (by omega)]; exact b2 b h1 (by omega)))
        · refine z_ldc2 (w := 3) d_Mod_laysRows_53 k_Mod_418 (by decide) ?_
          refine j_aload_n d_Mod_laysRows_56 rfl ?_
          refine j_iload_n d_Mod_laysRows_57 rfl ?_
          refine z_iconst d_Mod_laysRows_58 ?_
          refine z_isub d_Mod_laysRows_59 ?_
          refine j_iload d_Mod_laysRows_60 rfl ?_
          refine z_iconst d_Mod_laysRows_62 ?_
          refine z_iadd d_Mod_laysRows_63 ?_
          refine v_call2 d_Mod_laysRows_64 c_Mod_414 rfl ⟨_, rfl, rfl⟩ (Nat.le_of_ble_eq_true rfl) (t_Mod_goOn (by omega) (by omega) (by omega) (fun h64 => ?_) (fun h64 => ?_))
          · refine z_lmul d_Mod_laysRows_67 ?_
            refine j_goto (t := 72) d_Mod_laysRows_68 (by decide) ?_
            refine z_ladd d_Mod_laysRows_72 ?_
            refine j_lstore d_Mod_laysRows_73 (by decide) ?_
            show SJ _ _ _ _ [_, _, _, _, _, _, _] _ _ _ _ _
            refine j_aload_n d_Mod_laysRows_75 rfl ?_
            refine mg_goesOn0 f_Mod_94 d_Mod_laysRows_76 ?_
            refine z_bipush d_Mod_laysRows_79 (by decide) ?_
            refine j_iload_n d_Mod_laysRows_81 rfl ?_
            refine z_imul d_Mod_laysRows_82 ?_
            refine j_iload d_Mod_laysRows_83 rfl ?_
            refine z_iadd d_Mod_laysRows_85 ?_
            refine j_iload d_Mod_laysRows_86 rfl ?_
            refine j_iload_n d_Mod_laysRows_88 rfl ?_
            refine z_icmp_le (t := 96) d_Mod_laysRows_89 (by decide) (by first | omega | exact hw _ | exact hx _ _ | assumption) (by first | omega | exact hw _ | exact hx _ _ | assumption) (fun h89 => ?_) (fun h89 => ?_)
            · refine j_lload d_Mod_laysRows_96 rfl ?_
              refine ms_goesOn0 d_Mod_laysRows_98 (by omega) (by omega) ?_
              refine z_iinc d_Mod_laysRows_99 rfl (by decide) ?_
              show SJ _ _ _ _ [_, _, _, _, _, _, _] _ _ _ _ _
              refine j_goto (t := 12) d_Mod_laysRows_102 (by decide) ?_
              refine SJ.mask [true, true, true, true, true, false, true] ?_
              show SJ _ _ _ _ [_, _, _, _, _, none, none] _ _ _ _ _
              first
              | (exfalso; omega)
              | exact ih _ (by omega) _ _ rfl (by omega) (by omega) (by intro a b h1 h2 h3 h4; rw [up_ne (by omega)]; exact b1 a b h1 h2 h3 h4) (by intro b h1 h2; by_cases e : b = op; (subst e; rw [up_eq]; first | (rw [show lf = 0 by omega, Wd_0]; first | rw [if_pos (by omega)] | rw [if_neg (by omega)]) | (rw [Wd_out (by omega) (by omega) (by omega)]) | (rw [Wd_s (by omega), if_neg (by omega)]; first | rw [if_pos (by omega), if_pos (by omega), b1 _ _ (by omega) (by omega) (by omega) (by omega), b1 _ _ (by omega) (by omega) (by omega) (by omega)] | rw [if_neg (by omega), if_pos (by omega), b1 _ _ (by omega) (by omega) (by omega) (by omega)] | rw [if_pos (by omega), if_neg (by omega), b1 _ _ (by omega) (by omega) (by omega) (by omega)] | rw [if_neg (by omega), if_neg (by omega)])); (rw [up_ne (by omega)]; exact b2 b h1 (by omega)))
            · refine z_lconst (v := 0) d_Mod_laysRows_92 (by decide) ?_
              refine j_goto (t := 98) d_Mod_laysRows_93 (by decide) ?_
              refine ms_goesOn0 d_Mod_laysRows_98 (by omega) (by omega) ?_
              refine z_iinc d_Mod_laysRows_99 rfl (by decide) ?_
              show SJ _ _ _ _ [_, _, _, _, _, _, _] _ _ _ _ _
              refine j_goto (t := 12) d_Mod_laysRows_102 (by decide) ?_
              refine SJ.mask [true, true, true, true, true, false, true] ?_
              show SJ _ _ _ _ [_, _, _, _, _, none, none] _ _ _ _ _
              first
              | (exfalso; omega)
              | exact ih _ (by omega) _ _ rfl (by omega) (by omega) (by intro a b h1 h2 h3 h4; rw [up_ne (by omega)]; exact b1 a b h1 h2 h3 h4) (by intro b h1 h2; by_cases e : b = op; (subst e; rw [up_eq]; first | (rw [show lf = 0 by omega, Wd_0]; first | rw [if_pos (by omega)] | rw [if_neg (by omega)]) | (rw [Wd_out (by omega) (by omega) (by omega)]) | (rw [Wd_s (by omega), if_neg (by omega)]; first | rw [if_pos (by omega), if_pos (by omega), b1 _ _ (by omega) (by omega) (by omega) (by omega), b1 _ _ (by omega) (by omega) (by omega) (by omega)] | rw [if_neg (by omega), if_pos (by omega), b1 _ _ (by omega) (by omega) (by omega) (by omega)] | rw [if_pos (by omega), if_neg (by omega), b1 _ _ (by omega) (by omega) (by omega) (by omega)] | rw [if_neg (by omega), if_neg (by omega)])); (rw [up_ne (by omega)]; exact b2 b h1 (by omega)))
          · refine z_lmul d_Mod_laysRows_67 ?_
            refine j_goto (t := 72) d_Mod_laysRows_68 (by decide) ?_
            refine z_ladd d_Mod_laysRows_72 ?_
            refine j_lstore d_Mod_laysRows_73 (by decide) ?_
            show SJ _ _ _ _ [_, _, _, _, _, _, _] _ _ _ _ _
            refine j_aload_n d_Mod_laysRows_75 rfl ?_
            refine mg_goesOn0 f_Mod_94 d_Mod_laysRows_76 ?_
            refine z_bipush d_Mod_laysRows_79 (by decide) ?_
            refine j_iload_n d_Mod_laysRows_81 rfl ?_
            refine z_imul d_Mod_laysRows_82 ?_
            refine j_iload d_Mod_laysRows_83 rfl ?_
            refine z_iadd d_Mod_laysRows_85 ?_
            refine j_iload d_Mod_laysRows_86 rfl ?_
            refine j_iload_n d_Mod_laysRows_88 rfl ?_
            refine z_icmp_le (t := 96) d_Mod_laysRows_89 (by decide) (by first | omega | exact hw _ | exact hx _ _ | assumption) (by first | omega | exact hw _ | exact hx _ _ | assumption) (fun h89 => ?_) (fun h89 => ?_)
            · refine j_lload d_Mod_laysRows_96 rfl ?_
              refine ms_goesOn0 d_Mod_laysRows_98 (by omega) (by omega) ?_
              refine z_iinc d_Mod_laysRows_99 rfl (by decide) ?_
              show SJ _ _ _ _ [_, _, _, _, _, _, _] _ _ _ _ _
              refine j_goto (t := 12) d_Mod_laysRows_102 (by decide) ?_
              refine SJ.mask [true, true, true, true, true, false, true] ?_
              show SJ _ _ _ _ [_, _, _, _, _, none, none] _ _ _ _ _
              first
              | (exfalso; omega)
              | exact ih _ (by omega) _ _ rfl (by omega) (by omega) (by intro a b h1 h2 h3 h4; rw [up_ne (by omega)]; exact b1 a b h1 h2 h3 h4) (by intro b h1 h2; by_cases e : b = op; (subst e; rw [up_eq]; first | (rw [show lf = 0 by omega, Wd_0]; first | rw [if_pos (by omega)] | rw [if_neg (by omega)]) | (rw [Wd_out (by omega) (by omega) (by omega)]) | (rw [Wd_s (by omega), if_neg (by omega)]; first | rw [if_pos (by omega), if_pos (by omega), b1 _ _ (by omega) (by omega) (by omega) (by omega), b1 _ _ (by omega) (by omega) (by omega) (by omega)] | rw [if_neg (by omega), if_pos (by omega), b1 _ _ (by omega) (by omega) (by omega) (by omega)] | rw [if_pos (by omega), if_neg (by omega), b1 _ _ (by omega) (by omega) (by omega) (by omega)] | rw [if_neg (by omega), if_neg (by omega)])); (rw [up_ne (by omega)]; exact b2 b h1 (by omega)))
            · refine z_lconst (v := 0) d_Mod_laysRows_92 (by decide) ?_
              refine j_goto (t := 98) d_Mod_laysRows_93 (by decide) ?_
              refine ms_goesOn0 d_Mod_laysRows_98 (by omega) (by omega) ?_
              refine z_iinc d_Mod_laysRows_99 rfl (by decide) ?_
              show SJ _ _ _ _ [_, _, _, _, _, _, _] _ _ _ _ _
              refine j_goto (t := 12) d_Mod_laysRows_102 (by decide) ?_
              refine SJ.mask [true, true, true, true, true, false, true] ?_
              show SJ _ _ _ _ [_, _, _, _, _, none, none] _ _ _ _ _
              first
              | (exfalso; omega)
              | exact ih _ (by omega) _ _ rfl (by omega) (by omega) (by intro a b h1 h2 h3 h4; rw [up_ne (by omega)]; exact b1 a b h1 h2 h3 h4) (by intro b h1 h2; by_cases e : b = op; (subst e; rw [up_eq]; first | (rw [show lf = 0 by omega, Wd_0]; first | rw [if_pos (by omega)] | rw [if_neg (by omega)]) | (rw [Wd_out (by omega) (by omega) (by omega)]) | (rw [Wd_s (by omega), if_neg (by omega)]; first | rw [if_pos (by omega), if_pos (by omega), b1 _ _ (by omega) (by omega) (by omega) (by omega), b1 _ _ (by omega) (by omega) (by omega) (by omega)] | rw [if_neg (by omega), if_pos (by omega), b1 _ _ (by omega) (by omega) (by omega) (by omega)] | rw [if_pos (by omega), if_neg (by omega), b1 _ _ (by omega) (by omega) (by omega) (by omega)] | rw [if_neg (by omega), if_neg (by omega)])); (rw [up_ne (by omega)]; exact b2 b h1 (by omega)))
    · refine j_iload d_Mod_laysRows_23 rfl ?_
      refine z_if_ne (t := 32) d_Mod_laysRows_25 (by decide) (by first | omega | exact hw _ | exact hx _ _ | assumption) (fun h25 => ?_) (fun h25 => ?_)
      · refine z_lconst (v := 0) d_Mod_laysRows_32 (by decide) ?_
        refine j_goto (t := 73) d_Mod_laysRows_33 (by decide) ?_
        refine j_lstore d_Mod_laysRows_73 (by decide) ?_
        show SJ _ _ _ _ [_, _, _, _, _, _, _] _ _ _ _ _
        refine j_aload_n d_Mod_laysRows_75 rfl ?_
        refine mg_goesOn0 f_Mod_94 d_Mod_laysRows_76 ?_
        refine z_bipush d_Mod_laysRows_79 (by decide) ?_
        refine j_iload_n d_Mod_laysRows_81 rfl ?_
        refine z_imul d_Mod_laysRows_82 ?_
        refine j_iload d_Mod_laysRows_83 rfl ?_
        refine z_iadd d_Mod_laysRows_85 ?_
        refine j_iload d_Mod_laysRows_86 rfl ?_
        refine j_iload_n d_Mod_laysRows_88 rfl ?_
        refine z_icmp_le (t := 96) d_Mod_laysRows_89 (by decide) (by first | omega | exact hw _ | exact hx _ _ | assumption) (by first | omega | exact hw _ | exact hx _ _ | assumption) (fun h89 => ?_) (fun h89 => ?_)
        · refine j_lload d_Mod_laysRows_96 rfl ?_
          refine ms_goesOn0 d_Mod_laysRows_98 (by omega) (by omega) ?_
          refine z_iinc d_Mod_laysRows_99 rfl (by decide) ?_
          show SJ _ _ _ _ [_, _, _, _, _, _, _] _ _ _ _ _
          refine j_goto (t := 12) d_Mod_laysRows_102 (by decide) ?_
          refine SJ.mask [true, true, true, true, true, false, true] ?_
          show SJ _ _ _ _ [_, _, _, _, _, none, none] _ _ _ _ _
          first
          | (exfalso; omega)
          | exact ih _ (by omega) _ _ rfl (by omega) (by omega) (by intro a b h1 h2 h3 h4; rw [up_ne (by omega)]; exact b1 a b h1 h2 h3 h4) (by intro b h1 h2; by_cases e : b = op; (subst e; rw [up_eq]; first | (rw [show lf = 0 by omega, Wd_0]; first | rw [if_pos (by omega)] | rw [if_neg (by omega)]) | (rw [Wd_out (by omega) (by omega) (by omega)]) | (rw [Wd_s (by omega), if_neg (by omega)]; first | rw [if_pos (by omega), if_pos (by omega), b1 _ _ (by omega) (by omega) (by omega) (by omega), b1 _ _ (by omega) (by omega) (by omega) (by omega)] | rw [if_neg (by omega), if_pos (by omega), b1 _ _ (by omega) (by omega) (by omega) (by omega)] | rw [if_pos (by omega), if_neg (by omega), b1 _ _ (by omega) (by omega) (by omega) (by omega)] | rw [if_neg (by omega), if_neg (by omega)])); (rw [up_ne (by omega)]; exact b2 b h1 (by omega)))
        · refine z_lconst (v := 0) d_Mod_laysRows_92 (by decide) ?_
          refine j_goto (t := 98) d_Mod_laysRows_93 (by decide) ?_
          refine ms_goesOn0 d_Mod_laysRows_98 (by omega) (by omega) ?_
          refine z_iinc d_Mod_laysRows_99 rfl (by decide) ?_
          show SJ _ _ _ _ [_, _, _, _, _, _, _] _ _ _ _ _
          refine j_goto (t := 12) d_Mod_laysRows_102 (by decide) ?_
          refine SJ.mask [true, true, true, true, true, false, true] ?_
          show SJ _ _ _ _ [_, _, _, _, _, none, none] _ _ _ _ _
          first
          | (exfalso; omega)
          | exact ih _ (by omega) _ _ rfl (by omega) (by omega) (by intro a b h1 h2 h3 h4; rw [up_ne (by omega)]; exact b1 a b h1 h2 h3 h4) (by intro b h1 h2; by_cases e : b = op; (subst e; rw [up_eq]; first | (rw [show lf = 0 by omega, Wd_0]; first | rw [if_pos (by omega)] | rw [if_neg (by omega)]) | (rw [Wd_out (by omega) (by omega) (by omega)]) | (rw [Wd_s (by omega), if_neg (by omega)]; first | rw [if_pos (by omega), if_pos (by omega), b1 _ _ (by omega) (by omega) (by omega) (by omega), b1 _ _ (by omega) (by omega) (by omega) (by omega)] | rw [if_neg (by omega), if_pos (by omega), b1 _ _ (by omega) (by omega) (by omega) (by omega)] | rw [if_pos (by omega), if_neg (by omega), b1 _ _ (by omega) (by omega) (by omega) (by omega)] | rw [if_neg (by omega), if_neg (by omega)])); (rw [up_ne (by omega)]; exact b2 b h1 (by omega)))
      · refine z_lconst (v := 1) d_Mod_laysRows_28 (by decide) ?_
        refine j_goto (t := 73) d_Mod_laysRows_29 (by decide) ?_
        refine j_lstore d_Mod_laysRows_73 (by decide) ?_
        show SJ _ _ _ _ [_, _, _, _, _, _, _] _ _ _ _ _
        refine j_aload_n d_Mod_laysRows_75 rfl ?_
        refine mg_goesOn0 f_Mod_94 d_Mod_laysRows_76 ?_
        refine z_bipush d_Mod_laysRows_79 (by decide) ?_
        refine j_iload_n d_Mod_laysRows_81 rfl ?_
        refine z_imul d_Mod_laysRows_82 ?_
        refine j_iload d_Mod_laysRows_83 rfl ?_
        refine z_iadd d_Mod_laysRows_85 ?_
        refine j_iload d_Mod_laysRows_86 rfl ?_
        refine j_iload_n d_Mod_laysRows_88 rfl ?_
        refine z_icmp_le (t := 96) d_Mod_laysRows_89 (by decide) (by first | omega | exact hw _ | exact hx _ _ | assumption) (by first | omega | exact hw _ | exact hx _ _ | assumption) (fun h89 => ?_) (fun h89 => ?_)
        · refine j_lload d_Mod_laysRows_96 rfl ?_
          refine ms_goesOn0 d_Mod_laysRows_98 (by omega) (by omega) ?_
          refine z_iinc d_Mod_laysRows_99 rfl (by decide) ?_
          show SJ _ _ _ _ [_, _, _, _, _, _, _] _ _ _ _ _
          refine j_goto (t := 12) d_Mod_laysRows_102 (by decide) ?_
          refine SJ.mask [true, true, true, true, true, false, true] ?_
          show SJ _ _ _ _ [_, _, _, _, _, none, none] _ _ _ _ _
          first
          | (exfalso; omega)
          | exact ih _ (by omega) _ _ rfl (by omega) (by omega) (by intro a b h1 h2 h3 h4; rw [up_ne (by omega)]; exact b1 a b h1 h2 h3 h4) (by intro b h1 h2; by_cases e : b = op; (subst e; rw [up_eq]; first | (rw [show lf = 0 by omega, Wd_0]; first | rw [if_pos (by omega)] | rw [if_neg (by omega)]) | (rw [Wd_out (by omega) (by omega) (by omega)]) | (rw [Wd_s (by omega), if_neg (by omega)]; first | rw [if_pos (by omega), if_pos (by omega), b1 _ _ (by omega) (by omega) (by omega) (by omega), b1 _ _ (by omega) (by omega) (by omega) (by omega)] | rw [if_neg (by omega), if_pos (by omega), b1 _ _ (by omega) (by omega) (by omega) (by omega)] | rw [if_pos (by omega), if_neg (by omega), b1 _ _ (by omega) (by omega) (by omega) (by omega)] | rw [if_neg (by omega), if_neg (by omega)])); (rw [up_ne (by omega)]; exact b2 b h1 (by omega)))
        · refine z_lconst (v := 0) d_Mod_laysRows_92 (by decide) ?_
          refine j_goto (t := 98) d_Mod_laysRows_93 (by decide) ?_
          refine ms_goesOn0 d_Mod_laysRows_98 (by omega) (by omega) ?_
          refine z_iinc d_Mod_laysRows_99 rfl (by decide) ?_
          show SJ _ _ _ _ [_, _, _, _, _, _, _] _ _ _ _ _
          refine j_goto (t := 12) d_Mod_laysRows_102 (by decide) ?_
          refine SJ.mask [true, true, true, true, true, false, true] ?_
          show SJ _ _ _ _ [_, _, _, _, _, none, none] _ _ _ _ _
          first
          | (exfalso; omega)
          | exact ih _ (by omega) _ _ rfl (by omega) (by omega) (by intro a b h1 h2 h3 h4; rw [up_ne (by omega)]; exact b1 a b h1 h2 h3 h4) (by intro b h1 h2; by_cases e : b = op; (subst e; rw [up_eq]; first | (rw [show lf = 0 by omega, Wd_0]; first | rw [if_pos (by omega)] | rw [if_neg (by omega)]) | (rw [Wd_out (by omega) (by omega) (by omega)]) | (rw [Wd_s (by omega), if_neg (by omega)]; first | rw [if_pos (by omega), if_pos (by omega), b1 _ _ (by omega) (by omega) (by omega) (by omega), b1 _ _ (by omega) (by omega) (by omega) (by omega)] | rw [if_neg (by omega), if_pos (by omega), b1 _ _ (by omega) (by omega) (by omega) (by omega)] | rw [if_pos (by omega), if_neg (by omega), b1 _ _ (by omega) (by omega) (by omega) (by omega)] | rw [if_neg (by omega), if_neg (by omega)])); (rw [up_ne (by omega)]; exact b2 b h1 (by omega)))
theorem lp_laysRows {g : Bool} {d : Nat} {Q : List xM → Option Value → Prop} {i0 i6 i8 i9 i10 i13 i14 i18 i19 i20 i21 i22 i23 i24 i25 i27 i28 i33 i42 i43 i44 i45 i46 i47 i48 i51 i52 : Int} {x1 x2 x3 x4 x5 x7 x11 x12 x15 x16 x17 x26 x29 x30 x31 x32 x34 x35 x36 x37 x39 x40 x41 x49 x50 : Int → Int} {n deep : Int} (n0 : 0 ≤ n) (n1 : n ≤ 12) (d0 : 0 ≤ deep) (d1 : deep ≤ 12) (hQ : ∀ z, (∀ a b, 0 ≤ a → a ≤ 2 * n → 0 ≤ b → b ≤ 12 → z (14 * a + b) = Wd deep a b) → Q (MM i0 i6 i8 i9 i10 i13 i14 i18 i19 i20 i21 i22 i23 i24 i25 i27 i28 i33 i42 i43 i44 i45 i46 i47 i48 i51 i52 x1 x2 x3 x4 x5 x7 x11 x12 x15 x16 x17 x26 x29 x30 x31 x32 x34 x35 x36 x37 z x39 x40 x41 x49 x50) none) : ∀ (nn : Nat) (lf : Int) (z : Int → Int), (2 * n + 1 - lf).toNat = nn → 0 ≤ lf → lf ≤ 2 * n + 1 → (∀ a b, 0 ≤ a → a < lf → 0 ≤ b → b ≤ 12 → z (14 * a + b) = Wd deep a b) → SJ g m_Mod_laysRows (d + 1) 2 [some (.ref 0), some (.int (ii n)), some (.int (ii deep)), some (.int (ii lf)), none, none, none] [] (MM i0 i6 i8 i9 i10 i13 i14 i18 i19 i20 i21 i22 i23 i24 i25 i27 i28 i33 i42 i43 i44 i45 i46 i47 i48 i51 i52 x1 x2 x3 x4 x5 x7 x11 x12 x15 x16 x17 x26 x29 x30 x31 x32 x34 x35 x36 x37 z x39 x40 x41 x49 x50) 0 0 Q := by
  intro nn
  induction nn using Nat.strongRecOn with
  | ind nn ih =>
  intro lf z hn l0 l1 b1
  refine j_iload_n d_Mod_laysRows_2 rfl ?_
  refine z_iconst d_Mod_laysRows_3 ?_
  refine j_iload_n d_Mod_laysRows_4 rfl ?_
  refine z_imul d_Mod_laysRows_5 ?_
  refine z_icmp_gt (t := 111) d_Mod_laysRows_6 (by decide) (by first | omega | exact hw _ | exact hx _ _ | assumption) (by first | omega | exact hw _ | exact hx _ _ | assumption) (fun h6 => ?_) (fun h6 => ?_)
  · exact j_return rfl d_Mod_laysRows_111 (hQ z (fun a b h1 h2 h3 h4 => b1 a b h1 (by omega) h3 h4))
  · refine z_iconst d_Mod_laysRows_9 ?_
    refine j_istore d_Mod_laysRows_10 (by decide) ?_
    show SJ _ _ _ _ [_, _, _, _, _, _, _] _ _ _ _ _
    refine lp_laysRows2 n0 n1 d0 d1 (by omega) (by omega) (fun z2 h2 => ?_) _ 0 z rfl (by omega) (by omega) b1 (fun b h1 h2 => by omega)
    exact ih _ (by omega) _ _ rfl (by omega) (by omega) h2
theorem t_Mod_laysRows {g : Bool} {d : Nat} {Q : List xM → Option Value → Prop} {i0 i6 i8 i9 i10 i13 i14 i18 i19 i20 i21 i22 i23 i24 i25 i27 i28 i33 i42 i43 i44 i45 i46 i47 i48 i51 i52 : Int} {x1 x2 x3 x4 x5 x7 x11 x12 x15 x16 x17 x26 x29 x30 x31 x32 x34 x35 x36 x37 x38 x39 x40 x41 x49 x50 : Int → Int} {n deep : Int} (n0 : 0 ≤ n) (n1 : n ≤ 12) (d0 : 0 ≤ deep) (d1 : deep ≤ 12) (hQ : ∀ z, (∀ a b, 0 ≤ a → a ≤ 2 * n → 0 ≤ b → b ≤ 12 → z (14 * a + b) = Wd deep a b) → Q (MM i0 i6 i8 i9 i10 i13 i14 i18 i19 i20 i21 i22 i23 i24 i25 i27 i28 i33 i42 i43 i44 i45 i46 i47 i48 i51 i52 x1 x2 x3 x4 x5 x7 x11 x12 x15 x16 x17 x26 x29 x30 x31 x32 x34 x35 x36 x37 z x39 x40 x41 x49 x50) none) : CT g m_Mod_laysRows (d + 1) [.ref 0, .int (ii n), .int (ii deep)] (MM i0 i6 i8 i9 i10 i13 i14 i18 i19 i20 i21 i22 i23 i24 i25 i27 i28 i33 i42 i43 i44 i45 i46 i47 i48 i51 i52 x1 x2 x3 x4 x5 x7 x11 x12 x15 x16 x17 x26 x29 x30 x31 x32 x34 x35 x36 x37 x38 x39 x40 x41 x49 x50) 0 0 Q := by
  refine CT.of (by decide) (Nat.le_of_ble_eq_true rfl) ?_
  show SJ _ _ _ _ [some (.ref 0), some (.int (ii n)), some (.int (ii deep)), none, none, none, none] [] _ _ _ _
  refine z_iconst d_Mod_laysRows_0 ?_
  refine j_istore_n d_Mod_laysRows_1 (by decide) ?_
  show SJ _ _ _ _ [_, _, _, _, _, _, _] _ _ _ _ _
  exact lp_laysRows n0 n1 d0 d1 hQ _ 0 x38 rfl (by omega) (by omega) (fun a b h1 h2 => by omega)
theorem t_Mod_rows {g : Bool} {d : Nat} {Q : List xM → Option Value → Prop} {i0 i6 i8 i9 i10 i13 i14 i18 i19 i20 i21 i22 i23 i24 i25 i27 i28 i33 i42 i43 i44 i45 i46 i47 i48 i51 i52 : Int} {x1 x2 x3 x4 x5 x7 x11 x12 x15 x16 x17 x26 x29 x30 x31 x32 x34 x35 x36 x37 x38 x39 x40 x41 x49 x50 : Int → Int} {n deep : Int} (r1 : R32 n) (r2 : R32 deep) (ht : 0 ≤ n ∧ n ≤ 12 ∧ 0 ≤ deep ∧ deep ≤ 12 → ∀ z, Q (MM i0 i6 i8 i9 i10 i13 i14 i18 i19 i20 i21 i22 i23 i24 i25 i27 i28 i33 i42 i43 i44 i45 i46 i47 i48 i51 i52 x1 x2 x3 x4 x5 x7 x11 x12 x15 x16 x17 x26 x29 x30 x31 x32 x34 x35 x36 x37 z x39 x40 x41 x49 x50) (some (.long (ll (Wd deep (2 * n) 0))))) (hf : ¬ (0 ≤ n ∧ n ≤ 12 ∧ 0 ≤ deep ∧ deep ≤ 12) → Q (MM i0 i6 i8 i9 i10 i13 i14 i18 i19 i20 i21 i22 i23 i24 i25 i27 i28 i33 i42 i43 i44 i45 i46 i47 i48 i51 i52 x1 x2 x3 x4 x5 x7 x11 x12 x15 x16 x17 x26 x29 x30 x31 x32 x34 x35 x36 x37 x38 x39 x40 x41 x49 x50) (some (.long (ll (-1))))) : CT g m_Mod_rows (d + 2) [.ref 0, .int (ii n), .int (ii deep)] (MM i0 i6 i8 i9 i10 i13 i14 i18 i19 i20 i21 i22 i23 i24 i25 i27 i28 i33 i42 i43 i44 i45 i46 i47 i48 i51 i52 x1 x2 x3 x4 x5 x7 x11 x12 x15 x16 x17 x26 x29 x30 x31 x32 x34 x35 x36 x37 x38 x39 x40 x41 x49 x50) 0 0 Q := by
  refine CT.of (by decide) (Nat.le_of_ble_eq_true rfl) ?_
  show SJ _ _ _ _ [some (.ref 0), some (.int (ii n)), some (.int (ii deep))] [] _ _ _ _
  refine j_iload_n d_Mod_rows_0 rfl ?_
  refine z_iconst d_Mod_rows_1 ?_
  refine z_bipush d_Mod_rows_2 (by decide) ?_
  refine s_call3 d_Mod_rows_4 c_Mod_18 (Nat.le_of_ble_eq_true rfl) (t_Mod_lies (by first | omega | exact hw _ | exact hx _ _ | assumption) (by first | omega | exact hw _ | exact hx _ _ | assumption) (by first | omega | exact hw _ | exact hx _ _ | assumption) (fun h4 => ?_) (fun h4 => ?_))
  · refine z_if_eq (t := 20) d_Mod_rows_7 (by decide) (by first | omega | exact hw _ | exact hx _ _ | assumption) (fun h => absurd h (by decide)) (fun _ => ?_)
    refine j_iload_n d_Mod_rows_10 rfl ?_
    refine z_iconst d_Mod_rows_11 ?_
    refine z_bipush d_Mod_rows_12 (by decide) ?_
    refine s_call3 d_Mod_rows_14 c_Mod_18 (Nat.le_of_ble_eq_true rfl) (t_Mod_lies (by first | omega | exact hw _ | exact hx _ _ | assumption) (by first | omega | exact hw _ | exact hx _ _ | assumption) (by first | omega | exact hw _ | exact hx _ _ | assumption) (fun h14 => ?_) (fun h14 => ?_))
    · refine z_if_ne (t := 24) d_Mod_rows_17 (by decide) (by first | omega | exact hw _ | exact hx _ _ | assumption) (fun _ => ?_) (fun h => absurd h (by decide))
      refine j_aload_n d_Mod_rows_24 rfl ?_
      refine j_iload_n d_Mod_rows_25 rfl ?_
      refine j_iload_n d_Mod_rows_26 rfl ?_
      refine v_call2 d_Mod_rows_27 c_Mod_422 rfl ⟨_, rfl, rfl⟩ (Nat.le_of_ble_eq_true rfl) (t_Mod_laysRows (by omega) (by omega) (by omega) (by omega) (fun z hz => ?_))
      refine j_aload_n d_Mod_rows_30 rfl ?_
      refine z_iconst d_Mod_rows_31 ?_
      refine j_iload_n d_Mod_rows_32 rfl ?_
      refine z_imul d_Mod_rows_33 ?_
      refine z_iconst d_Mod_rows_34 ?_
      refine v_call2 d_Mod_rows_35 c_Mod_414 rfl ⟨_, rfl, rfl⟩ (Nat.le_of_ble_eq_true rfl) (t_Mod_goOn (by omega) (by omega) (by omega) (fun h35 => ?_) (fun h35 => absurd (show (0 : Int) ≤ 0 ∧ (0 : Int) ≤ 12 by omega) h35))
      exact z_lret rfl d_Mod_rows_38 (hz _ _ (by omega) (by omega) (by omega) (by omega)) (ht (by omega) z)
    · refine z_if_ne (t := 24) d_Mod_rows_17 (by decide) (by first | omega | exact hw _ | exact hx _ _ | assumption) (fun h => absurd h (by decide)) (fun _ => ?_)
      refine z_ldc2 (w := -1) d_Mod_rows_20 k_Mod_420 (by decide) ?_
      exact z_lret rfl d_Mod_rows_23 (by first | rfl | omega | simp_all) (hf (by omega))
  · refine z_if_eq (t := 20) d_Mod_rows_7 (by decide) (by first | omega | exact hw _ | exact hx _ _ | assumption) (fun _ => ?_) (fun h => absurd h (by decide))
    refine z_ldc2 (w := -1) d_Mod_rows_20 k_Mod_420 (by decide) ?_
    exact z_lret rfl d_Mod_rows_23 (by first | rfl | omega | simp_all) (hf (by omega))
