theorem lp_termOf {g : Bool} {d : Nat} {Q : List xM → Option Value → Prop} {i0 i6 i8 i9 i10 i13 i14 i18 i19 i20 i21 i23 i25 i27 i28 i33 i42 i43 i44 i45 i46 i47 i48 i51 i52 : Int} {x1 x2 x3 x4 x5 x7 x11 x12 x15 x16 x17 x26 x31 x32 x34 x35 x36 x37 x38 x39 x40 x41 x49 x50 : Int → Int} (hC : ∀ k, 0 ≤ k → k < 2800 → 0 ≤ x2 (33 + k) ∧ x2 (33 + k) ≤ 400) (e0 : 0 ≤ i23) (e1 : i23 ≤ 2800) {P : Int → Int → Int → EV} (hP : ME g m_Mod_partOf (d + 11) i0 i6 i8 i9 i10 i13 i14 i18 i19 i20 i21 i23 i25 i27 i28 i33 i42 i43 i44 i45 i46 i47 i48 i51 i52 x1 x2 x3 x4 x5 x7 x11 x12 x15 x16 x17 x26 x31 x32 x34 x35 x36 x37 x38 x39 x40 x41 x49 x50 P) {live v go2 br2 : Int} (hl : live = 0 ∨ live = 1) (hQ : ∀ y29 y30, Q (MM i0 i6 i8 i9 i10 i13 i14 i18 i19 i20 i21 go2 i23 br2 i25 i27 i28 i33 i42 i43 i44 i45 i46 i47 i48 i51 i52 x1 x2 x3 x4 x5 x7 x11 x12 x15 x16 x17 x26 y29 y30 x31 x32 x34 x35 x36 x37 x38 x39 x40 x41 x49 x50) (some (.long (ll v))))  : ∀ (nn : Nat) (k : Nat) (acc : Int) (go : Int) (br : Int) (z29 : Int → Int) (z30 : Int → Int), ((k : Int)).toNat = nn → rgo acc → (br = 0 ∨ br = 1) → tL (cdA x2 i23) P live k acc go br = some (v, go2, br2) → SJ g m_Mod_termOf (d + 12) 6 [some (.ref 0), some (.int (ii live)), some (.long (ll acc)), none, none, none, none] [] (MM i0 i6 i8 i9 i10 i13 i14 i18 i19 i20 i21 go i23 br i25 i27 i28 i33 i42 i43 i44 i45 i46 i47 i48 i51 i52 x1 x2 x3 x4 x5 x7 x11 x12 x15 x16 x17 x26 z29 z30 x31 x32 x34 x35 x36 x37 x38 x39 x40 x41 x49 x50) 0 0 Q := by
  intro nn
  induction nn using Nat.strongRecOn with
  | ind nn ih =>
  intro k acc go br z29 z30 hn ra hb hF
  obtain ⟨j, rfl, g0, g1, hcase⟩ := tL_inv hF
  have hcr := cdA_R hC e1 g0
  refine j_aload_n d_Mod_termOf_6 rfl ?_
  refine j_aload_n d_Mod_termOf_7 rfl ?_
  refine mg_go f_Mod_249 d_Mod_termOf_8 ?_
  refine v_call1 d_Mod_termOf_11 c_Mod_252 rfl ⟨_, rfl, rfl⟩ (Nat.le_of_ble_eq_true rfl) (t_Mod_codeAt hC e0 e1 (by omega) (by omega) ?_)
  refine z_bipush d_Mod_termOf_14 (by decide) ?_
  refine s_call1 d_Mod_termOf_16 c_Mod_208 (Nat.le_of_ble_eq_true rfl) (t_Mod_sign  ?_)
  refine z_icmp_eq (t := 54) d_Mod_termOf_19 (by decide) (by first | omega | exact hw _ | exact hx _ _ | assumption) (by first | omega | exact hw _ | exact hx _ _ | assumption) (fun h19 => ?_) (fun h19 => ?_)
  · obtain ⟨hop, ww, gg, bb, hP2, hw2, hb2, hr2, hL2⟩ := (Hd.out hcase).resolve_right (fun q => q.1 (by omega))
    refine j_aload_n d_Mod_termOf_54 rfl ?_
    refine j_aload_n d_Mod_termOf_55 rfl ?_
    refine mg_go f_Mod_249 d_Mod_termOf_56 ?_
    refine v_call1 d_Mod_termOf_59 c_Mod_252 rfl ⟨_, rfl, rfl⟩ (Nat.le_of_ble_eq_true rfl) (t_Mod_codeAt hC e0 e1 (by omega) (by omega) ?_)
    refine j_istore d_Mod_termOf_62 (by decide) ?_
    show SJ _ _ _ _ [_, _, _, _, _, _, _] _ _ _ _ _
    refine j_aload_n d_Mod_termOf_64 rfl ?_
    refine j_dup d_Mod_termOf_65 rfl ?_
    refine mg_go f_Mod_249 d_Mod_termOf_66 ?_
    refine z_iconst d_Mod_termOf_69 ?_
    refine z_iadd d_Mod_termOf_70 ?_
    refine mp_go f_Mod_249 d_Mod_termOf_71 ?_
    refine j_aload_n d_Mod_termOf_74 rfl ?_
    refine j_iload_n d_Mod_termOf_75 rfl ?_
    refine v_call1 d_Mod_termOf_76 c_Mod_270 rfl ⟨_, rfl, rfl⟩ (Nat.le_of_ble_eq_true rfl) (hP live (go + 1) br _ _ _ _ _ _ hP2 hl hb (fun y29 y30 => ?_))
    refine j_lstore d_Mod_termOf_79 (by decide) ?_
    show SJ _ _ _ _ [_, _, _, _, _, _, _] _ _ _ _ _
    refine j_iload d_Mod_termOf_81 rfl ?_
    refine z_bipush d_Mod_termOf_83 (by decide) ?_
    refine s_call1 d_Mod_termOf_85 c_Mod_208 (Nat.le_of_ble_eq_true rfl) (t_Mod_sign  ?_)
    refine z_icmp_eq (t := 121) d_Mod_termOf_88 (by decide) (by first | omega | exact hw _ | exact hx _ _ | assumption) (by first | omega | exact hw _ | exact hx _ _ | assumption) (fun h88 => ?_) (fun h88 => ?_)
    · refine j_aload_n d_Mod_termOf_121 rfl ?_
      refine j_iload d_Mod_termOf_122 rfl ?_
      refine z_bipush d_Mod_termOf_124 (by decide) ?_
      refine s_call1 d_Mod_termOf_126 c_Mod_208 (Nat.le_of_ble_eq_true rfl) (t_Mod_sign  ?_)
      refine z_icmp_ne (t := 139) d_Mod_termOf_129 (by decide) (by first | omega | exact hw _ | exact hx _ _ | assumption) (by first | omega | exact hw _ | exact hx _ _ | assumption) (fun hq => by exfalso; omega) (fun _ => ?_)
      refine j_lload_n d_Mod_termOf_132 rfl ?_
      refine j_lload d_Mod_termOf_133 rfl ?_
      refine z_lmul d_Mod_termOf_135 ?_
      refine j_goto (t := 160) d_Mod_termOf_136 (by decide) ?_
      refine j_iload_n d_Mod_termOf_160 rfl ?_
      refine v_call2 d_Mod_termOf_161 c_Mod_266 rfl ⟨_, rfl, rfl⟩ (Nat.le_of_ble_eq_true rfl) (t_Mod_bounded (by first | exact rg_mul ra hw2 | (exact ⟨Int.le_trans (by decide) (rg_div ra).1, Int.lt_of_le_of_lt (rg_div ra).2 (by decide)⟩) | (exact ⟨Int.le_trans (by decide) (rg_mod ra).1, Int.lt_of_le_of_lt (rg_mod ra).2 (by decide)⟩) | omega) hl (by first | exact hb2 | exact Or.inl rfl | exact Or.inr rfl) (fun p hp => ?_))
      first
      | rw [← tC_mul (op := cdA x2 i23 go) (w := ww) (b := bb) (by omega)] at hp
      | rw [← tC_div (op := cdA x2 i23 go) (w := ww) (b := bb) (by omega) (by omega)] at hp
      | rw [← tC_rem (op := cdA x2 i23 go) (w := ww) (b := bb) (by omega) (by omega) (by omega)] at hp
      | rw [← tC_div1 (op := cdA x2 i23 go) (w := ww) (b := bb) (by omega) (by omega) (by omega)] at hp
      | rw [← tC_div0 (op := cdA x2 i23 go) (w := ww) (b := bb) (by omega) (by omega) (by omega)] at hp
      | rw [← tC_rem1 (op := cdA x2 i23 go) (w := ww) (b := bb) (by omega) (by omega) (by omega) (by omega)] at hp
      | rw [← tC_rem0 (op := cdA x2 i23 go) (w := ww) (b := bb) (by omega) (by omega) (by omega) (by omega)] at hp
      subst hp
      refine j_lstore_n d_Mod_termOf_164 (by decide) ?_
      show SJ _ _ _ _ [_, _, _, _, _, _, _] _ _ _ _ _
      refine j_goto (t := 6) d_Mod_termOf_165 (by decide) ?_
      refine SJ.mask [true, true, true, true, false, false, true] ?_
      show SJ _ _ _ _ [_, _, _, none, none, none, none] _ _ _ _ _
      exact ih _ (by omega) _ _ _ _ _ _ rfl hr2 (tC_b hb2) hL2
    · refine j_lload d_Mod_termOf_91 rfl ?_
      refine z_lconst (v := 0) d_Mod_termOf_93 (by decide) ?_
      refine z_lcmp_ne (t := 121) d_Mod_termOf_94 d_Mod_termOf_95 (by decide) (by first | omega | exact hw _ | exact hx _ _ | assumption) (by first | omega | exact hw _ | exact hx _ _ | assumption) (fun h94 => ?_) (fun h94 => ?_)
      · refine j_aload_n d_Mod_termOf_121 rfl ?_
        refine j_iload d_Mod_termOf_122 rfl ?_
        refine z_bipush d_Mod_termOf_124 (by decide) ?_
        refine s_call1 d_Mod_termOf_126 c_Mod_208 (Nat.le_of_ble_eq_true rfl) (t_Mod_sign  ?_)
        refine z_icmp_ne (t := 139) d_Mod_termOf_129 (by decide) (by first | omega | exact hw _ | exact hx _ _ | assumption) (by first | omega | exact hw _ | exact hx _ _ | assumption) (fun _ => ?_) (fun hq => by exfalso; omega)
        refine j_iload d_Mod_termOf_139 rfl ?_
        refine z_bipush d_Mod_termOf_141 (by decide) ?_
        refine s_call1 d_Mod_termOf_143 c_Mod_208 (Nat.le_of_ble_eq_true rfl) (t_Mod_sign  ?_)
        refine z_icmp_ne (t := 156) d_Mod_termOf_146 (by decide) (by first | omega | exact hw _ | exact hx _ _ | assumption) (by first | omega | exact hw _ | exact hx _ _ | assumption) (fun h146 => ?_) (fun h146 => ?_)
        · refine j_lload_n d_Mod_termOf_156 rfl ?_
          refine j_lload d_Mod_termOf_157 rfl ?_
          refine z_lrem d_Mod_termOf_159 (by omega) (by omega) (by omega) ?_
          refine j_iload_n d_Mod_termOf_160 rfl ?_
          refine v_call2 d_Mod_termOf_161 c_Mod_266 rfl ⟨_, rfl, rfl⟩ (Nat.le_of_ble_eq_true rfl) (t_Mod_bounded (by first | exact rg_mul ra hw2 | (exact ⟨Int.le_trans (by decide) (rg_div ra).1, Int.lt_of_le_of_lt (rg_div ra).2 (by decide)⟩) | (exact ⟨Int.le_trans (by decide) (rg_mod ra).1, Int.lt_of_le_of_lt (rg_mod ra).2 (by decide)⟩) | omega) hl (by first | exact hb2 | exact Or.inl rfl | exact Or.inr rfl) (fun p hp => ?_))
          first
          | rw [← tC_mul (op := cdA x2 i23 go) (w := ww) (b := bb) (by omega)] at hp
          | rw [← tC_div (op := cdA x2 i23 go) (w := ww) (b := bb) (by omega) (by omega)] at hp
          | rw [← tC_rem (op := cdA x2 i23 go) (w := ww) (b := bb) (by omega) (by omega) (by omega)] at hp
          | rw [← tC_div1 (op := cdA x2 i23 go) (w := ww) (b := bb) (by omega) (by omega) (by omega)] at hp
          | rw [← tC_div0 (op := cdA x2 i23 go) (w := ww) (b := bb) (by omega) (by omega) (by omega)] at hp
          | rw [← tC_rem1 (op := cdA x2 i23 go) (w := ww) (b := bb) (by omega) (by omega) (by omega) (by omega)] at hp
          | rw [← tC_rem0 (op := cdA x2 i23 go) (w := ww) (b := bb) (by omega) (by omega) (by omega) (by omega)] at hp
          subst hp
          refine j_lstore_n d_Mod_termOf_164 (by decide) ?_
          show SJ _ _ _ _ [_, _, _, _, _, _, _] _ _ _ _ _
          refine j_goto (t := 6) d_Mod_termOf_165 (by decide) ?_
          refine SJ.mask [true, true, true, true, false, false, true] ?_
          show SJ _ _ _ _ [_, _, _, none, none, none, none] _ _ _ _ _
          exact ih _ (by omega) _ _ _ _ _ _ rfl hr2 (tC_b hb2) hL2
        · refine j_lload_n d_Mod_termOf_149 rfl ?_
          refine j_lload d_Mod_termOf_150 rfl ?_
          refine z_ldiv d_Mod_termOf_152 (by omega) (by omega) (by omega) ?_
          refine j_goto (t := 160) d_Mod_termOf_153 (by decide) ?_
          refine j_iload_n d_Mod_termOf_160 rfl ?_
          refine v_call2 d_Mod_termOf_161 c_Mod_266 rfl ⟨_, rfl, rfl⟩ (Nat.le_of_ble_eq_true rfl) (t_Mod_bounded (by first | exact rg_mul ra hw2 | (exact ⟨Int.le_trans (by decide) (rg_div ra).1, Int.lt_of_le_of_lt (rg_div ra).2 (by decide)⟩) | (exact ⟨Int.le_trans (by decide) (rg_mod ra).1, Int.lt_of_le_of_lt (rg_mod ra).2 (by decide)⟩) | omega) hl (by first | exact hb2 | exact Or.inl rfl | exact Or.inr rfl) (fun p hp => ?_))
          first
          | rw [← tC_mul (op := cdA x2 i23 go) (w := ww) (b := bb) (by omega)] at hp
          | rw [← tC_div (op := cdA x2 i23 go) (w := ww) (b := bb) (by omega) (by omega)] at hp
          | rw [← tC_rem (op := cdA x2 i23 go) (w := ww) (b := bb) (by omega) (by omega) (by omega)] at hp
          | rw [← tC_div1 (op := cdA x2 i23 go) (w := ww) (b := bb) (by omega) (by omega) (by omega)] at hp
          | rw [← tC_div0 (op := cdA x2 i23 go) (w := ww) (b := bb) (by omega) (by omega) (by omega)] at hp
          | rw [← tC_rem1 (op := cdA x2 i23 go) (w := ww) (b := bb) (by omega) (by omega) (by omega) (by omega)] at hp
          | rw [← tC_rem0 (op := cdA x2 i23 go) (w := ww) (b := bb) (by omega) (by omega) (by omega) (by omega)] at hp
          subst hp
          refine j_lstore_n d_Mod_termOf_164 (by decide) ?_
          show SJ _ _ _ _ [_, _, _, _, _, _, _] _ _ _ _ _
          refine j_goto (t := 6) d_Mod_termOf_165 (by decide) ?_
          refine SJ.mask [true, true, true, true, false, false, true] ?_
          show SJ _ _ _ _ [_, _, _, none, none, none, none] _ _ _ _ _
          exact ih _ (by omega) _ _ _ _ _ _ rfl hr2 (tC_b hb2) hL2
      · refine j_aload_n d_Mod_termOf_98 rfl ?_
        refine j_aload_n d_Mod_termOf_99 rfl ?_
        refine mg_broken f_Mod_259 d_Mod_termOf_100 ?_
        refine z_if_ne (t := 110) d_Mod_termOf_103 (by decide) (by first | omega | exact hw _ | exact hx _ _ | assumption) (fun h103 => ?_) (fun h103 => ?_)
        · refine z_iconst d_Mod_termOf_110 ?_
          refine j_goto (t := 115) d_Mod_termOf_111 (by decide) ?_
          refine mp_broken f_Mod_259 d_Mod_termOf_115 (by first | exact Or.inl rfl | exact Or.inr rfl | assumption | omega) ?_
          refine z_lconst (v := 1) d_Mod_termOf_118 (by decide) ?_
          refine j_lstore d_Mod_termOf_119 (by decide) ?_
          show SJ _ _ _ _ [_, _, _, _, _, _, _] _ _ _ _ _
          refine j_aload_n d_Mod_termOf_121 rfl ?_
          refine j_iload d_Mod_termOf_122 rfl ?_
          refine z_bipush d_Mod_termOf_124 (by decide) ?_
          refine s_call1 d_Mod_termOf_126 c_Mod_208 (Nat.le_of_ble_eq_true rfl) (t_Mod_sign  ?_)
          refine z_icmp_ne (t := 139) d_Mod_termOf_129 (by decide) (by first | omega | exact hw _ | exact hx _ _ | assumption) (by first | omega | exact hw _ | exact hx _ _ | assumption) (fun _ => ?_) (fun hq => by exfalso; omega)
          refine j_iload d_Mod_termOf_139 rfl ?_
          refine z_bipush d_Mod_termOf_141 (by decide) ?_
          refine s_call1 d_Mod_termOf_143 c_Mod_208 (Nat.le_of_ble_eq_true rfl) (t_Mod_sign  ?_)
          refine z_icmp_ne (t := 156) d_Mod_termOf_146 (by decide) (by first | omega | exact hw _ | exact hx _ _ | assumption) (by first | omega | exact hw _ | exact hx _ _ | assumption) (fun h146 => ?_) (fun h146 => ?_)
          · refine j_lload_n d_Mod_termOf_156 rfl ?_
            refine j_lload d_Mod_termOf_157 rfl ?_
            refine z_lrem d_Mod_termOf_159 (by omega) (by omega) (by omega) ?_
            refine j_iload_n d_Mod_termOf_160 rfl ?_
            refine v_call2 d_Mod_termOf_161 c_Mod_266 rfl ⟨_, rfl, rfl⟩ (Nat.le_of_ble_eq_true rfl) (t_Mod_bounded (by first | exact rg_mul ra hw2 | (exact ⟨Int.le_trans (by decide) (rg_div ra).1, Int.lt_of_le_of_lt (rg_div ra).2 (by decide)⟩) | (exact ⟨Int.le_trans (by decide) (rg_mod ra).1, Int.lt_of_le_of_lt (rg_mod ra).2 (by decide)⟩) | omega) hl (by first | exact hb2 | exact Or.inl rfl | exact Or.inr rfl) (fun p hp => ?_))
            first
            | rw [← tC_mul (op := cdA x2 i23 go) (w := ww) (b := bb) (by omega)] at hp
            | rw [← tC_div (op := cdA x2 i23 go) (w := ww) (b := bb) (by omega) (by omega)] at hp
            | rw [← tC_rem (op := cdA x2 i23 go) (w := ww) (b := bb) (by omega) (by omega) (by omega)] at hp
            | rw [← tC_div1 (op := cdA x2 i23 go) (w := ww) (b := bb) (by omega) (by omega) (by omega)] at hp
            | rw [← tC_div0 (op := cdA x2 i23 go) (w := ww) (b := bb) (by omega) (by omega) (by omega)] at hp
            | rw [← tC_rem1 (op := cdA x2 i23 go) (w := ww) (b := bb) (by omega) (by omega) (by omega) (by omega)] at hp
            | rw [← tC_rem0 (op := cdA x2 i23 go) (w := ww) (b := bb) (by omega) (by omega) (by omega) (by omega)] at hp
            subst hp
            refine j_lstore_n d_Mod_termOf_164 (by decide) ?_
            show SJ _ _ _ _ [_, _, _, _, _, _, _] _ _ _ _ _
            refine j_goto (t := 6) d_Mod_termOf_165 (by decide) ?_
            refine SJ.mask [true, true, true, true, false, false, true] ?_
            show SJ _ _ _ _ [_, _, _, none, none, none, none] _ _ _ _ _
            exact ih _ (by omega) _ _ _ _ _ _ rfl hr2 (tC_b hb2) hL2
          · refine j_lload_n d_Mod_termOf_149 rfl ?_
            refine j_lload d_Mod_termOf_150 rfl ?_
            refine z_ldiv d_Mod_termOf_152 (by omega) (by omega) (by omega) ?_
            refine j_goto (t := 160) d_Mod_termOf_153 (by decide) ?_
            refine j_iload_n d_Mod_termOf_160 rfl ?_
            refine v_call2 d_Mod_termOf_161 c_Mod_266 rfl ⟨_, rfl, rfl⟩ (Nat.le_of_ble_eq_true rfl) (t_Mod_bounded (by first | exact rg_mul ra hw2 | (exact ⟨Int.le_trans (by decide) (rg_div ra).1, Int.lt_of_le_of_lt (rg_div ra).2 (by decide)⟩) | (exact ⟨Int.le_trans (by decide) (rg_mod ra).1, Int.lt_of_le_of_lt (rg_mod ra).2 (by decide)⟩) | omega) hl (by first | exact hb2 | exact Or.inl rfl | exact Or.inr rfl) (fun p hp => ?_))
            first
            | rw [← tC_mul (op := cdA x2 i23 go) (w := ww) (b := bb) (by omega)] at hp
            | rw [← tC_div (op := cdA x2 i23 go) (w := ww) (b := bb) (by omega) (by omega)] at hp
            | rw [← tC_rem (op := cdA x2 i23 go) (w := ww) (b := bb) (by omega) (by omega) (by omega)] at hp
            | rw [← tC_div1 (op := cdA x2 i23 go) (w := ww) (b := bb) (by omega) (by omega) (by omega)] at hp
            | rw [← tC_div0 (op := cdA x2 i23 go) (w := ww) (b := bb) (by omega) (by omega) (by omega)] at hp
            | rw [← tC_rem1 (op := cdA x2 i23 go) (w := ww) (b := bb) (by omega) (by omega) (by omega) (by omega)] at hp
            | rw [← tC_rem0 (op := cdA x2 i23 go) (w := ww) (b := bb) (by omega) (by omega) (by omega) (by omega)] at hp
            subst hp
            refine j_lstore_n d_Mod_termOf_164 (by decide) ?_
            show SJ _ _ _ _ [_, _, _, _, _, _, _] _ _ _ _ _
            refine j_goto (t := 6) d_Mod_termOf_165 (by decide) ?_
            refine SJ.mask [true, true, true, true, false, false, true] ?_
            show SJ _ _ _ _ [_, _, _, none, none, none, none] _ _ _ _ _
            exact ih _ (by omega) _ _ _ _ _ _ rfl hr2 (tC_b hb2) hL2
        · refine j_iload_n d_Mod_termOf_106 rfl ?_
          refine z_if_eq (t := 114) d_Mod_termOf_107 (by decide) (by first | omega | exact hw _ | exact hx _ _ | assumption) (fun h107 => ?_) (fun h107 => ?_)
          · refine z_iconst d_Mod_termOf_114 ?_
            refine mp_broken f_Mod_259 d_Mod_termOf_115 (by first | exact Or.inl rfl | exact Or.inr rfl | assumption | omega) ?_
            refine z_lconst (v := 1) d_Mod_termOf_118 (by decide) ?_
            refine j_lstore d_Mod_termOf_119 (by decide) ?_
            show SJ _ _ _ _ [_, _, _, _, _, _, _] _ _ _ _ _
            refine j_aload_n d_Mod_termOf_121 rfl ?_
            refine j_iload d_Mod_termOf_122 rfl ?_
            refine z_bipush d_Mod_termOf_124 (by decide) ?_
            refine s_call1 d_Mod_termOf_126 c_Mod_208 (Nat.le_of_ble_eq_true rfl) (t_Mod_sign  ?_)
            refine z_icmp_ne (t := 139) d_Mod_termOf_129 (by decide) (by first | omega | exact hw _ | exact hx _ _ | assumption) (by first | omega | exact hw _ | exact hx _ _ | assumption) (fun _ => ?_) (fun hq => by exfalso; omega)
            refine j_iload d_Mod_termOf_139 rfl ?_
            refine z_bipush d_Mod_termOf_141 (by decide) ?_
            refine s_call1 d_Mod_termOf_143 c_Mod_208 (Nat.le_of_ble_eq_true rfl) (t_Mod_sign  ?_)
            refine z_icmp_ne (t := 156) d_Mod_termOf_146 (by decide) (by first | omega | exact hw _ | exact hx _ _ | assumption) (by first | omega | exact hw _ | exact hx _ _ | assumption) (fun h146 => ?_) (fun h146 => ?_)
            · refine j_lload_n d_Mod_termOf_156 rfl ?_
              refine j_lload d_Mod_termOf_157 rfl ?_
              refine z_lrem d_Mod_termOf_159 (by omega) (by omega) (by omega) ?_
              refine j_iload_n d_Mod_termOf_160 rfl ?_
              refine v_call2 d_Mod_termOf_161 c_Mod_266 rfl ⟨_, rfl, rfl⟩ (Nat.le_of_ble_eq_true rfl) (t_Mod_bounded (by first | exact rg_mul ra hw2 | (exact ⟨Int.le_trans (by decide) (rg_div ra).1, Int.lt_of_le_of_lt (rg_div ra).2 (by decide)⟩) | (exact ⟨Int.le_trans (by decide) (rg_mod ra).1, Int.lt_of_le_of_lt (rg_mod ra).2 (by decide)⟩) | omega) hl (by first | exact hb2 | exact Or.inl rfl | exact Or.inr rfl) (fun p hp => ?_))
              first
              | rw [← tC_mul (op := cdA x2 i23 go) (w := ww) (b := bb) (by omega)] at hp
              | rw [← tC_div (op := cdA x2 i23 go) (w := ww) (b := bb) (by omega) (by omega)] at hp
              | rw [← tC_rem (op := cdA x2 i23 go) (w := ww) (b := bb) (by omega) (by omega) (by omega)] at hp
              | rw [← tC_div1 (op := cdA x2 i23 go) (w := ww) (b := bb) (by omega) (by omega) (by omega)] at hp
              | rw [← tC_div0 (op := cdA x2 i23 go) (w := ww) (b := bb) (by omega) (by omega) (by omega)] at hp
              | rw [← tC_rem1 (op := cdA x2 i23 go) (w := ww) (b := bb) (by omega) (by omega) (by omega) (by omega)] at hp
              | rw [← tC_rem0 (op := cdA x2 i23 go) (w := ww) (b := bb) (by omega) (by omega) (by omega) (by omega)] at hp
              subst hp
              refine j_lstore_n d_Mod_termOf_164 (by decide) ?_
              show SJ _ _ _ _ [_, _, _, _, _, _, _] _ _ _ _ _
              refine j_goto (t := 6) d_Mod_termOf_165 (by decide) ?_
              refine SJ.mask [true, true, true, true, false, false, true] ?_
              show SJ _ _ _ _ [_, _, _, none, none, none, none] _ _ _ _ _
              exact ih _ (by omega) _ _ _ _ _ _ rfl hr2 (tC_b hb2) hL2
            · refine j_lload_n d_Mod_termOf_149 rfl ?_
              refine j_lload d_Mod_termOf_150 rfl ?_
              refine z_ldiv d_Mod_termOf_152 (by omega) (by omega) (by omega) ?_
              refine j_goto (t := 160) d_Mod_termOf_153 (by decide) ?_
              refine j_iload_n d_Mod_termOf_160 rfl ?_
              refine v_call2 d_Mod_termOf_161 c_Mod_266 rfl ⟨_, rfl, rfl⟩ (Nat.le_of_ble_eq_true rfl) (t_Mod_bounded (by first | exact rg_mul ra hw2 | (exact ⟨Int.le_trans (by decide) (rg_div ra).1, Int.lt_of_le_of_lt (rg_div ra).2 (by decide)⟩) | (exact ⟨Int.le_trans (by decide) (rg_mod ra).1, Int.lt_of_le_of_lt (rg_mod ra).2 (by decide)⟩) | omega) hl (by first | exact hb2 | exact Or.inl rfl | exact Or.inr rfl) (fun p hp => ?_))
              first
              | rw [← tC_mul (op := cdA x2 i23 go) (w := ww) (b := bb) (by omega)] at hp
              | rw [← tC_div (op := cdA x2 i23 go) (w := ww) (b := bb) (by omega) (by omega)] at hp
              | rw [← tC_rem (op := cdA x2 i23 go) (w := ww) (b := bb) (by omega) (by omega) (by omega)] at hp
              | rw [← tC_div1 (op := cdA x2 i23 go) (w := ww) (b := bb) (by omega) (by omega) (by omega)] at hp
              | rw [← tC_div0 (op := cdA x2 i23 go) (w := ww) (b := bb) (by omega) (by omega) (by omega)] at hp
              | rw [← tC_rem1 (op := cdA x2 i23 go) (w := ww) (b := bb) (by omega) (by omega) (by omega) (by omega)] at hp
              | rw [← tC_rem0 (op := cdA x2 i23 go) (w := ww) (b := bb) (by omega) (by omega) (by omega) (by omega)] at hp
              subst hp
              refine j_lstore_n d_Mod_termOf_164 (by decide) ?_
              show SJ _ _ _ _ [_, _, _, _, _, _, _] _ _ _ _ _
              refine j_goto (t := 6) d_Mod_termOf_165 (by decide) ?_
              refine SJ.mask [true, true, true, true, false, false, true] ?_
              show SJ _ _ _ _ [_, _, _, none, none, none, none] _ _ _ _ _
              exact ih _ (by omega) _ _ _ _ _ _ rfl hr2 (tC_b hb2) hL2
          · refine z_iconst d_Mod_termOf_110 ?_
            refine j_goto (t := 115) d_Mod_termOf_111 (by decide) ?_
            refine mp_broken f_Mod_259 d_Mod_termOf_115 (by first | exact Or.inl rfl | exact Or.inr rfl | assumption | omega) ?_
            refine z_lconst (v := 1) d_Mod_termOf_118 (by decide) ?_
            refine j_lstore d_Mod_termOf_119 (by decide) ?_
            show SJ _ _ _ _ [_, _, _, _, _, _, _] _ _ _ _ _
            refine j_aload_n d_Mod_termOf_121 rfl ?_
            refine j_iload d_Mod_termOf_122 rfl ?_
            refine z_bipush d_Mod_termOf_124 (by decide) ?_
            refine s_call1 d_Mod_termOf_126 c_Mod_208 (Nat.le_of_ble_eq_true rfl) (t_Mod_sign  ?_)
            refine z_icmp_ne (t := 139) d_Mod_termOf_129 (by decide) (by first | omega | exact hw _ | exact hx _ _ | assumption) (by first | omega | exact hw _ | exact hx _ _ | assumption) (fun _ => ?_) (fun hq => by exfalso; omega)
            refine j_iload d_Mod_termOf_139 rfl ?_
            refine z_bipush d_Mod_termOf_141 (by decide) ?_
            refine s_call1 d_Mod_termOf_143 c_Mod_208 (Nat.le_of_ble_eq_true rfl) (t_Mod_sign  ?_)
            refine z_icmp_ne (t := 156) d_Mod_termOf_146 (by decide) (by first | omega | exact hw _ | exact hx _ _ | assumption) (by first | omega | exact hw _ | exact hx _ _ | assumption) (fun h146 => ?_) (fun h146 => ?_)
            · refine j_lload_n d_Mod_termOf_156 rfl ?_
              refine j_lload d_Mod_termOf_157 rfl ?_
              refine z_lrem d_Mod_termOf_159 (by omega) (by omega) (by omega) ?_
              refine j_iload_n d_Mod_termOf_160 rfl ?_
              refine v_call2 d_Mod_termOf_161 c_Mod_266 rfl ⟨_, rfl, rfl⟩ (Nat.le_of_ble_eq_true rfl) (t_Mod_bounded (by first | exact rg_mul ra hw2 | (exact ⟨Int.le_trans (by decide) (rg_div ra).1, Int.lt_of_le_of_lt (rg_div ra).2 (by decide)⟩) | (exact ⟨Int.le_trans (by decide) (rg_mod ra).1, Int.lt_of_le_of_lt (rg_mod ra).2 (by decide)⟩) | omega) hl (by first | exact hb2 | exact Or.inl rfl | exact Or.inr rfl) (fun p hp => ?_))
              first
              | rw [← tC_mul (op := cdA x2 i23 go) (w := ww) (b := bb) (by omega)] at hp
              | rw [← tC_div (op := cdA x2 i23 go) (w := ww) (b := bb) (by omega) (by omega)] at hp
              | rw [← tC_rem (op := cdA x2 i23 go) (w := ww) (b := bb) (by omega) (by omega) (by omega)] at hp
              | rw [← tC_div1 (op := cdA x2 i23 go) (w := ww) (b := bb) (by omega) (by omega) (by omega)] at hp
              | rw [← tC_div0 (op := cdA x2 i23 go) (w := ww) (b := bb) (by omega) (by omega) (by omega)] at hp
              | rw [← tC_rem1 (op := cdA x2 i23 go) (w := ww) (b := bb) (by omega) (by omega) (by omega) (by omega)] at hp
              | rw [← tC_rem0 (op := cdA x2 i23 go) (w := ww) (b := bb) (by omega) (by omega) (by omega) (by omega)] at hp
              subst hp
              refine j_lstore_n d_Mod_termOf_164 (by decide) ?_
              show SJ _ _ _ _ [_, _, _, _, _, _, _] _ _ _ _ _
              refine j_goto (t := 6) d_Mod_termOf_165 (by decide) ?_
              refine SJ.mask [true, true, true, true, false, false, true] ?_
              show SJ _ _ _ _ [_, _, _, none, none, none, none] _ _ _ _ _
              exact ih _ (by omega) _ _ _ _ _ _ rfl hr2 (tC_b hb2) hL2
            · refine j_lload_n d_Mod_termOf_149 rfl ?_
              refine j_lload d_Mod_termOf_150 rfl ?_
              refine z_ldiv d_Mod_termOf_152 (by omega) (by omega) (by omega) ?_
              refine j_goto (t := 160) d_Mod_termOf_153 (by decide) ?_
              refine j_iload_n d_Mod_termOf_160 rfl ?_
              refine v_call2 d_Mod_termOf_161 c_Mod_266 rfl ⟨_, rfl, rfl⟩ (Nat.le_of_ble_eq_true rfl) (t_Mod_bounded (by first | exact rg_mul ra hw2 | (exact ⟨Int.le_trans (by decide) (rg_div ra).1, Int.lt_of_le_of_lt (rg_div ra).2 (by decide)⟩) | (exact ⟨Int.le_trans (by decide) (rg_mod ra).1, Int.lt_of_le_of_lt (rg_mod ra).2 (by decide)⟩) | omega) hl (by first | exact hb2 | exact Or.inl rfl | exact Or.inr rfl) (fun p hp => ?_))
              first
              | rw [← tC_mul (op := cdA x2 i23 go) (w := ww) (b := bb) (by omega)] at hp
              | rw [← tC_div (op := cdA x2 i23 go) (w := ww) (b := bb) (by omega) (by omega)] at hp
              | rw [← tC_rem (op := cdA x2 i23 go) (w := ww) (b := bb) (by omega) (by omega) (by omega)] at hp
              | rw [← tC_div1 (op := cdA x2 i23 go) (w := ww) (b := bb) (by omega) (by omega) (by omega)] at hp
              | rw [← tC_div0 (op := cdA x2 i23 go) (w := ww) (b := bb) (by omega) (by omega) (by omega)] at hp
              | rw [← tC_rem1 (op := cdA x2 i23 go) (w := ww) (b := bb) (by omega) (by omega) (by omega) (by omega)] at hp
              | rw [← tC_rem0 (op := cdA x2 i23 go) (w := ww) (b := bb) (by omega) (by omega) (by omega) (by omega)] at hp
              subst hp
              refine j_lstore_n d_Mod_termOf_164 (by decide) ?_
              show SJ _ _ _ _ [_, _, _, _, _, _, _] _ _ _ _ _
              refine j_goto (t := 6) d_Mod_termOf_165 (by decide) ?_
              refine SJ.mask [true, true, true, true, false, false, true] ?_
              show SJ _ _ _ _ [_, _, _, none, none, none, none] _ _ _ _ _
              exact ih _ (by omega) _ _ _ _ _ _ rfl hr2 (tC_b hb2) hL2
  · refine j_aload_n d_Mod_termOf_22 rfl ?_
    refine j_aload_n d_Mod_termOf_23 rfl ?_
    refine mg_go f_Mod_249 d_Mod_termOf_24 ?_
    refine v_call1 d_Mod_termOf_27 c_Mod_252 rfl ⟨_, rfl, rfl⟩ (Nat.le_of_ble_eq_true rfl) (t_Mod_codeAt hC e0 e1 (by omega) (by omega) ?_)
    refine z_bipush d_Mod_termOf_30 (by decide) ?_
    refine s_call1 d_Mod_termOf_32 c_Mod_208 (Nat.le_of_ble_eq_true rfl) (t_Mod_sign  ?_)
    refine z_icmp_eq (t := 54) d_Mod_termOf_35 (by decide) (by first | omega | exact hw _ | exact hx _ _ | assumption) (by first | omega | exact hw _ | exact hx _ _ | assumption) (fun h35 => ?_) (fun h35 => ?_)
    · obtain ⟨hop, ww, gg, bb, hP2, hw2, hb2, hr2, hL2⟩ := (Hd.out hcase).resolve_right (fun q => q.1 (by omega))
      refine j_aload_n d_Mod_termOf_54 rfl ?_
      refine j_aload_n d_Mod_termOf_55 rfl ?_
      refine mg_go f_Mod_249 d_Mod_termOf_56 ?_
      refine v_call1 d_Mod_termOf_59 c_Mod_252 rfl ⟨_, rfl, rfl⟩ (Nat.le_of_ble_eq_true rfl) (t_Mod_codeAt hC e0 e1 (by omega) (by omega) ?_)
      refine j_istore d_Mod_termOf_62 (by decide) ?_
      show SJ _ _ _ _ [_, _, _, _, _, _, _] _ _ _ _ _
      refine j_aload_n d_Mod_termOf_64 rfl ?_
      refine j_dup d_Mod_termOf_65 rfl ?_
      refine mg_go f_Mod_249 d_Mod_termOf_66 ?_
      refine z_iconst d_Mod_termOf_69 ?_
      refine z_iadd d_Mod_termOf_70 ?_
      refine mp_go f_Mod_249 d_Mod_termOf_71 ?_
      refine j_aload_n d_Mod_termOf_74 rfl ?_
      refine j_iload_n d_Mod_termOf_75 rfl ?_
      refine v_call1 d_Mod_termOf_76 c_Mod_270 rfl ⟨_, rfl, rfl⟩ (Nat.le_of_ble_eq_true rfl) (hP live (go + 1) br _ _ _ _ _ _ hP2 hl hb (fun y29 y30 => ?_))
      refine j_lstore d_Mod_termOf_79 (by decide) ?_
      show SJ _ _ _ _ [_, _, _, _, _, _, _] _ _ _ _ _
      refine j_iload d_Mod_termOf_81 rfl ?_
      refine z_bipush d_Mod_termOf_83 (by decide) ?_
      refine s_call1 d_Mod_termOf_85 c_Mod_208 (Nat.le_of_ble_eq_true rfl) (t_Mod_sign  ?_)
      refine z_icmp_eq (t := 121) d_Mod_termOf_88 (by decide) (by first | omega | exact hw _ | exact hx _ _ | assumption) (by first | omega | exact hw _ | exact hx _ _ | assumption) (fun h88 => ?_) (fun h88 => ?_)
      · refine j_aload_n d_Mod_termOf_121 rfl ?_
        refine j_iload d_Mod_termOf_122 rfl ?_
        refine z_bipush d_Mod_termOf_124 (by decide) ?_
        refine s_call1 d_Mod_termOf_126 c_Mod_208 (Nat.le_of_ble_eq_true rfl) (t_Mod_sign  ?_)
        refine z_icmp_ne (t := 139) d_Mod_termOf_129 (by decide) (by first | omega | exact hw _ | exact hx _ _ | assumption) (by first | omega | exact hw _ | exact hx _ _ | assumption) (fun hq => by exfalso; omega) (fun _ => ?_)
        refine j_lload_n d_Mod_termOf_132 rfl ?_
        refine j_lload d_Mod_termOf_133 rfl ?_
        refine z_lmul d_Mod_termOf_135 ?_
        refine j_goto (t := 160) d_Mod_termOf_136 (by decide) ?_
        refine j_iload_n d_Mod_termOf_160 rfl ?_
        refine v_call2 d_Mod_termOf_161 c_Mod_266 rfl ⟨_, rfl, rfl⟩ (Nat.le_of_ble_eq_true rfl) (t_Mod_bounded (by first | exact rg_mul ra hw2 | (exact ⟨Int.le_trans (by decide) (rg_div ra).1, Int.lt_of_le_of_lt (rg_div ra).2 (by decide)⟩) | (exact ⟨Int.le_trans (by decide) (rg_mod ra).1, Int.lt_of_le_of_lt (rg_mod ra).2 (by decide)⟩) | omega) hl (by first | exact hb2 | exact Or.inl rfl | exact Or.inr rfl) (fun p hp => ?_))
        first
        | rw [← tC_mul (op := cdA x2 i23 go) (w := ww) (b := bb) (by omega)] at hp
        | rw [← tC_div (op := cdA x2 i23 go) (w := ww) (b := bb) (by omega) (by omega)] at hp
        | rw [← tC_rem (op := cdA x2 i23 go) (w := ww) (b := bb) (by omega) (by omega) (by omega)] at hp
        | rw [← tC_div1 (op := cdA x2 i23 go) (w := ww) (b := bb) (by omega) (by omega) (by omega)] at hp
        | rw [← tC_div0 (op := cdA x2 i23 go) (w := ww) (b := bb) (by omega) (by omega) (by omega)] at hp
        | rw [← tC_rem1 (op := cdA x2 i23 go) (w := ww) (b := bb) (by omega) (by omega) (by omega) (by omega)] at hp
        | rw [← tC_rem0 (op := cdA x2 i23 go) (w := ww) (b := bb) (by omega) (by omega) (by omega) (by omega)] at hp
        subst hp
        refine j_lstore_n d_Mod_termOf_164 (by decide) ?_
        show SJ _ _ _ _ [_, _, _, _, _, _, _] _ _ _ _ _
        refine j_goto (t := 6) d_Mod_termOf_165 (by decide) ?_
        refine SJ.mask [true, true, true, true, false, false, true] ?_
        show SJ _ _ _ _ [_, _, _, none, none, none, none] _ _ _ _ _
        exact ih _ (by omega) _ _ _ _ _ _ rfl hr2 (tC_b hb2) hL2
      · refine j_lload d_Mod_termOf_91 rfl ?_
        refine z_lconst (v := 0) d_Mod_termOf_93 (by decide) ?_
        refine z_lcmp_ne (t := 121) d_Mod_termOf_94 d_Mod_termOf_95 (by decide) (by first | omega | exact hw _ | exact hx _ _ | assumption) (by first | omega | exact hw _ | exact hx _ _ | assumption) (fun h94 => ?_) (fun h94 => ?_)
        · refine j_aload_n d_Mod_termOf_121 rfl ?_
          refine j_iload d_Mod_termOf_122 rfl ?_
          refine z_bipush d_Mod_termOf_124 (by decide) ?_
          refine s_call1 d_Mod_termOf_126 c_Mod_208 (Nat.le_of_ble_eq_true rfl) (t_Mod_sign  ?_)
          refine z_icmp_ne (t := 139) d_Mod_termOf_129 (by decide) (by first | omega | exact hw _ | exact hx _ _ | assumption) (by first | omega | exact hw _ | exact hx _ _ | assumption) (fun _ => ?_) (fun hq => by exfalso; omega)
          refine j_iload d_Mod_termOf_139 rfl ?_
          refine z_bipush d_Mod_termOf_141 (by decide) ?_
          refine s_call1 d_Mod_termOf_143 c_Mod_208 (Nat.le_of_ble_eq_true rfl) (t_Mod_sign  ?_)
          refine z_icmp_ne (t := 156) d_Mod_termOf_146 (by decide) (by first | omega | exact hw _ | exact hx _ _ | assumption) (by first | omega | exact hw _ | exact hx _ _ | assumption) (fun h146 => ?_) (fun h146 => ?_)
          · refine j_lload_n d_Mod_termOf_156 rfl ?_
            refine j_lload d_Mod_termOf_157 rfl ?_
            refine z_lrem d_Mod_termOf_159 (by omega) (by omega) (by omega) ?_
            refine j_iload_n d_Mod_termOf_160 rfl ?_
            refine v_call2 d_Mod_termOf_161 c_Mod_266 rfl ⟨_, rfl, rfl⟩ (Nat.le_of_ble_eq_true rfl) (t_Mod_bounded (by first | exact rg_mul ra hw2 | (exact ⟨Int.le_trans (by decide) (rg_div ra).1, Int.lt_of_le_of_lt (rg_div ra).2 (by decide)⟩) | (exact ⟨Int.le_trans (by decide) (rg_mod ra).1, Int.lt_of_le_of_lt (rg_mod ra).2 (by decide)⟩) | omega) hl (by first | exact hb2 | exact Or.inl rfl | exact Or.inr rfl) (fun p hp => ?_))
            first
            | rw [← tC_mul (op := cdA x2 i23 go) (w := ww) (b := bb) (by omega)] at hp
            | rw [← tC_div (op := cdA x2 i23 go) (w := ww) (b := bb) (by omega) (by omega)] at hp
            | rw [← tC_rem (op := cdA x2 i23 go) (w := ww) (b := bb) (by omega) (by omega) (by omega)] at hp
            | rw [← tC_div1 (op := cdA x2 i23 go) (w := ww) (b := bb) (by omega) (by omega) (by omega)] at hp
            | rw [← tC_div0 (op := cdA x2 i23 go) (w := ww) (b := bb) (by omega) (by omega) (by omega)] at hp
            | rw [← tC_rem1 (op := cdA x2 i23 go) (w := ww) (b := bb) (by omega) (by omega) (by omega) (by omega)] at hp
            | rw [← tC_rem0 (op := cdA x2 i23 go) (w := ww) (b := bb) (by omega) (by omega) (by omega) (by omega)] at hp
            subst hp
            refine j_lstore_n d_Mod_termOf_164 (by decide) ?_
            show SJ _ _ _ _ [_, _, _, _, _, _, _] _ _ _ _ _
            refine j_goto (t := 6) d_Mod_termOf_165 (by decide) ?_
            refine SJ.mask [true, true, true, true, false, false, true] ?_
            show SJ _ _ _ _ [_, _, _, none, none, none, none] _ _ _ _ _
            exact ih _ (by omega) _ _ _ _ _ _ rfl hr2 (tC_b hb2) hL2
          · refine j_lload_n d_Mod_termOf_149 rfl ?_
            refine j_lload d_Mod_termOf_150 rfl ?_
            refine z_ldiv d_Mod_termOf_152 (by omega) (by omega) (by omega) ?_
            refine j_goto (t := 160) d_Mod_termOf_153 (by decide) ?_
            refine j_iload_n d_Mod_termOf_160 rfl ?_
            refine v_call2 d_Mod_termOf_161 c_Mod_266 rfl ⟨_, rfl, rfl⟩ (Nat.le_of_ble_eq_true rfl) (t_Mod_bounded (by first | exact rg_mul ra hw2 | (exact ⟨Int.le_trans (by decide) (rg_div ra).1, Int.lt_of_le_of_lt (rg_div ra).2 (by decide)⟩) | (exact ⟨Int.le_trans (by decide) (rg_mod ra).1, Int.lt_of_le_of_lt (rg_mod ra).2 (by decide)⟩) | omega) hl (by first | exact hb2 | exact Or.inl rfl | exact Or.inr rfl) (fun p hp => ?_))
            first
            | rw [← tC_mul (op := cdA x2 i23 go) (w := ww) (b := bb) (by omega)] at hp
            | rw [← tC_div (op := cdA x2 i23 go) (w := ww) (b := bb) (by omega) (by omega)] at hp
            | rw [← tC_rem (op := cdA x2 i23 go) (w := ww) (b := bb) (by omega) (by omega) (by omega)] at hp
            | rw [← tC_div1 (op := cdA x2 i23 go) (w := ww) (b := bb) (by omega) (by omega) (by omega)] at hp
            | rw [← tC_div0 (op := cdA x2 i23 go) (w := ww) (b := bb) (by omega) (by omega) (by omega)] at hp
            | rw [← tC_rem1 (op := cdA x2 i23 go) (w := ww) (b := bb) (by omega) (by omega) (by omega) (by omega)] at hp
            | rw [← tC_rem0 (op := cdA x2 i23 go) (w := ww) (b := bb) (by omega) (by omega) (by omega) (by omega)] at hp
            subst hp
            refine j_lstore_n d_Mod_termOf_164 (by decide) ?_
            show SJ _ _ _ _ [_, _, _, _, _, _, _] _ _ _ _ _
            refine j_goto (t := 6) d_Mod_termOf_165 (by decide) ?_
            refine SJ.mask [true, true, true, true, false, false, true] ?_
            show SJ _ _ _ _ [_, _, _, none, none, none, none] _ _ _ _ _
            exact ih _ (by omega) _ _ _ _ _ _ rfl hr2 (tC_b hb2) hL2
        · refine j_aload_n d_Mod_termOf_98 rfl ?_
          refine j_aload_n d_Mod_termOf_99 rfl ?_
          refine mg_broken f_Mod_259 d_Mod_termOf_100 ?_
          refine z_if_ne (t := 110) d_Mod_termOf_103 (by decide) (by first | omega | exact hw _ | exact hx _ _ | assumption) (fun h103 => ?_) (fun h103 => ?_)
          · refine z_iconst d_Mod_termOf_110 ?_
            refine j_goto (t := 115) d_Mod_termOf_111 (by decide) ?_
            refine mp_broken f_Mod_259 d_Mod_termOf_115 (by first | exact Or.inl rfl | exact Or.inr rfl | assumption | omega) ?_
            refine z_lconst (v := 1) d_Mod_termOf_118 (by decide) ?_
            refine j_lstore d_Mod_termOf_119 (by decide) ?_
            show SJ _ _ _ _ [_, _, _, _, _, _, _] _ _ _ _ _
            refine j_aload_n d_Mod_termOf_121 rfl ?_
            refine j_iload d_Mod_termOf_122 rfl ?_
            refine z_bipush d_Mod_termOf_124 (by decide) ?_
            refine s_call1 d_Mod_termOf_126 c_Mod_208 (Nat.le_of_ble_eq_true rfl) (t_Mod_sign  ?_)
            refine z_icmp_ne (t := 139) d_Mod_termOf_129 (by decide) (by first | omega | exact hw _ | exact hx _ _ | assumption) (by first | omega | exact hw _ | exact hx _ _ | assumption) (fun _ => ?_) (fun hq => by exfalso; omega)
            refine j_iload d_Mod_termOf_139 rfl ?_
            refine z_bipush d_Mod_termOf_141 (by decide) ?_
            refine s_call1 d_Mod_termOf_143 c_Mod_208 (Nat.le_of_ble_eq_true rfl) (t_Mod_sign  ?_)
            refine z_icmp_ne (t := 156) d_Mod_termOf_146 (by decide) (by first | omega | exact hw _ | exact hx _ _ | assumption) (by first | omega | exact hw _ | exact hx _ _ | assumption) (fun h146 => ?_) (fun h146 => ?_)
            · refine j_lload_n d_Mod_termOf_156 rfl ?_
              refine j_lload d_Mod_termOf_157 rfl ?_
              refine z_lrem d_Mod_termOf_159 (by omega) (by omega) (by omega) ?_
              refine j_iload_n d_Mod_termOf_160 rfl ?_
              refine v_call2 d_Mod_termOf_161 c_Mod_266 rfl ⟨_, rfl, rfl⟩ (Nat.le_of_ble_eq_true rfl) (t_Mod_bounded (by first | exact rg_mul ra hw2 | (exact ⟨Int.le_trans (by decide) (rg_div ra).1, Int.lt_of_le_of_lt (rg_div ra).2 (by decide)⟩) | (exact ⟨Int.le_trans (by decide) (rg_mod ra).1, Int.lt_of_le_of_lt (rg_mod ra).2 (by decide)⟩) | omega) hl (by first | exact hb2 | exact Or.inl rfl | exact Or.inr rfl) (fun p hp => ?_))
              first
              | rw [← tC_mul (op := cdA x2 i23 go) (w := ww) (b := bb) (by omega)] at hp
              | rw [← tC_div (op := cdA x2 i23 go) (w := ww) (b := bb) (by omega) (by omega)] at hp
              | rw [← tC_rem (op := cdA x2 i23 go) (w := ww) (b := bb) (by omega) (by omega) (by omega)] at hp
              | rw [← tC_div1 (op := cdA x2 i23 go) (w := ww) (b := bb) (by omega) (by omega) (by omega)] at hp
              | rw [← tC_div0 (op := cdA x2 i23 go) (w := ww) (b := bb) (by omega) (by omega) (by omega)] at hp
              | rw [← tC_rem1 (op := cdA x2 i23 go) (w := ww) (b := bb) (by omega) (by omega) (by omega) (by omega)] at hp
              | rw [← tC_rem0 (op := cdA x2 i23 go) (w := ww) (b := bb) (by omega) (by omega) (by omega) (by omega)] at hp
              subst hp
              refine j_lstore_n d_Mod_termOf_164 (by decide) ?_
              show SJ _ _ _ _ [_, _, _, _, _, _, _] _ _ _ _ _
              refine j_goto (t := 6) d_Mod_termOf_165 (by decide) ?_
              refine SJ.mask [true, true, true, true, false, false, true] ?_
              show SJ _ _ _ _ [_, _, _, none, none, none, none] _ _ _ _ _
              exact ih _ (by omega) _ _ _ _ _ _ rfl hr2 (tC_b hb2) hL2
            · refine j_lload_n d_Mod_termOf_149 rfl ?_
              refine j_lload d_Mod_termOf_150 rfl ?_
              refine z_ldiv d_Mod_termOf_152 (by omega) (by omega) (by omega) ?_
              refine j_goto (t := 160) d_Mod_termOf_153 (by decide) ?_
              refine j_iload_n d_Mod_termOf_160 rfl ?_
              refine v_call2 d_Mod_termOf_161 c_Mod_266 rfl ⟨_, rfl, rfl⟩ (Nat.le_of_ble_eq_true rfl) (t_Mod_bounded (by first | exact rg_mul ra hw2 | (exact ⟨Int.le_trans (by decide) (rg_div ra).1, Int.lt_of_le_of_lt (rg_div ra).2 (by decide)⟩) | (exact ⟨Int.le_trans (by decide) (rg_mod ra).1, Int.lt_of_le_of_lt (rg_mod ra).2 (by decide)⟩) | omega) hl (by first | exact hb2 | exact Or.inl rfl | exact Or.inr rfl) (fun p hp => ?_))
              first
              | rw [← tC_mul (op := cdA x2 i23 go) (w := ww) (b := bb) (by omega)] at hp
              | rw [← tC_div (op := cdA x2 i23 go) (w := ww) (b := bb) (by omega) (by omega)] at hp
              | rw [← tC_rem (op := cdA x2 i23 go) (w := ww) (b := bb) (by omega) (by omega) (by omega)] at hp
              | rw [← tC_div1 (op := cdA x2 i23 go) (w := ww) (b := bb) (by omega) (by omega) (by omega)] at hp
              | rw [← tC_div0 (op := cdA x2 i23 go) (w := ww) (b := bb) (by omega) (by omega) (by omega)] at hp
              | rw [← tC_rem1 (op := cdA x2 i23 go) (w := ww) (b := bb) (by omega) (by omega) (by omega) (by omega)] at hp
              | rw [← tC_rem0 (op := cdA x2 i23 go) (w := ww) (b := bb) (by omega) (by omega) (by omega) (by omega)] at hp
              subst hp
              refine j_lstore_n d_Mod_termOf_164 (by decide) ?_
              show SJ _ _ _ _ [_, _, _, _, _, _, _] _ _ _ _ _
              refine j_goto (t := 6) d_Mod_termOf_165 (by decide) ?_
              refine SJ.mask [true, true, true, true, false, false, true] ?_
              show SJ _ _ _ _ [_, _, _, none, none, none, none] _ _ _ _ _
              exact ih _ (by omega) _ _ _ _ _ _ rfl hr2 (tC_b hb2) hL2
          · refine j_iload_n d_Mod_termOf_106 rfl ?_
            refine z_if_eq (t := 114) d_Mod_termOf_107 (by decide) (by first | omega | exact hw _ | exact hx _ _ | assumption) (fun h107 => ?_) (fun h107 => ?_)
            · refine z_iconst d_Mod_termOf_114 ?_
              refine mp_broken f_Mod_259 d_Mod_termOf_115 (by first | exact Or.inl rfl | exact Or.inr rfl | assumption | omega) ?_
              refine z_lconst (v := 1) d_Mod_termOf_118 (by decide) ?_
              refine j_lstore d_Mod_termOf_119 (by decide) ?_
              show SJ _ _ _ _ [_, _, _, _, _, _, _] _ _ _ _ _
              refine j_aload_n d_Mod_termOf_121 rfl ?_
              refine j_iload d_Mod_termOf_122 rfl ?_
              refine z_bipush d_Mod_termOf_124 (by decide) ?_
              refine s_call1 d_Mod_termOf_126 c_Mod_208 (Nat.le_of_ble_eq_true rfl) (t_Mod_sign  ?_)
              refine z_icmp_ne (t := 139) d_Mod_termOf_129 (by decide) (by first | omega | exact hw _ | exact hx _ _ | assumption) (by first | omega | exact hw _ | exact hx _ _ | assumption) (fun _ => ?_) (fun hq => by exfalso; omega)
              refine j_iload d_Mod_termOf_139 rfl ?_
              refine z_bipush d_Mod_termOf_141 (by decide) ?_
              refine s_call1 d_Mod_termOf_143 c_Mod_208 (Nat.le_of_ble_eq_true rfl) (t_Mod_sign  ?_)
              refine z_icmp_ne (t := 156) d_Mod_termOf_146 (by decide) (by first | omega | exact hw _ | exact hx _ _ | assumption) (by first | omega | exact hw _ | exact hx _ _ | assumption) (fun h146 => ?_) (fun h146 => ?_)
              · refine j_lload_n d_Mod_termOf_156 rfl ?_
                refine j_lload d_Mod_termOf_157 rfl ?_
                refine z_lrem d_Mod_termOf_159 (by omega) (by omega) (by omega) ?_
                refine j_iload_n d_Mod_termOf_160 rfl ?_
                refine v_call2 d_Mod_termOf_161 c_Mod_266 rfl ⟨_, rfl, rfl⟩ (Nat.le_of_ble_eq_true rfl) (t_Mod_bounded (by first | exact rg_mul ra hw2 | (exact ⟨Int.le_trans (by decide) (rg_div ra).1, Int.lt_of_le_of_lt (rg_div ra).2 (by decide)⟩) | (exact ⟨Int.le_trans (by decide) (rg_mod ra).1, Int.lt_of_le_of_lt (rg_mod ra).2 (by decide)⟩) | omega) hl (by first | exact hb2 | exact Or.inl rfl | exact Or.inr rfl) (fun p hp => ?_))
                first
                | rw [← tC_mul (op := cdA x2 i23 go) (w := ww) (b := bb) (by omega)] at hp
                | rw [← tC_div (op := cdA x2 i23 go) (w := ww) (b := bb) (by omega) (by omega)] at hp
                | rw [← tC_rem (op := cdA x2 i23 go) (w := ww) (b := bb) (by omega) (by omega) (by omega)] at hp
                | rw [← tC_div1 (op := cdA x2 i23 go) (w := ww) (b := bb) (by omega) (by omega) (by omega)] at hp
                | rw [← tC_div0 (op := cdA x2 i23 go) (w := ww) (b := bb) (by omega) (by omega) (by omega)] at hp
                | rw [← tC_rem1 (op := cdA x2 i23 go) (w := ww) (b := bb) (by omega) (by omega) (by omega) (by omega)] at hp
                | rw [← tC_rem0 (op := cdA x2 i23 go) (w := ww) (b := bb) (by omega) (by omega) (by omega) (by omega)] at hp
                subst hp
                refine j_lstore_n d_Mod_termOf_164 (by decide) ?_
                show SJ _ _ _ _ [_, _, _, _, _, _, _] _ _ _ _ _
                refine j_goto (t := 6) d_Mod_termOf_165 (by decide) ?_
                refine SJ.mask [true, true, true, true, false, false, true] ?_
                show SJ _ _ _ _ [_, _, _, none, none, none, none] _ _ _ _ _
                exact ih _ (by omega) _ _ _ _ _ _ rfl hr2 (tC_b hb2) hL2
              · refine j_lload_n d_Mod_termOf_149 rfl ?_
                refine j_lload d_Mod_termOf_150 rfl ?_
                refine z_ldiv d_Mod_termOf_152 (by omega) (by omega) (by omega) ?_
                refine j_goto (t := 160) d_Mod_termOf_153 (by decide) ?_
                refine j_iload_n d_Mod_termOf_160 rfl ?_
                refine v_call2 d_Mod_termOf_161 c_Mod_266 rfl ⟨_, rfl, rfl⟩ (Nat.le_of_ble_eq_true rfl) (t_Mod_bounded (by first | exact rg_mul ra hw2 | (exact ⟨Int.le_trans (by decide) (rg_div ra).1, Int.lt_of_le_of_lt (rg_div ra).2 (by decide)⟩) | (exact ⟨Int.le_trans (by decide) (rg_mod ra).1, Int.lt_of_le_of_lt (rg_mod ra).2 (by decide)⟩) | omega) hl (by first | exact hb2 | exact Or.inl rfl | exact Or.inr rfl) (fun p hp => ?_))
                first
                | rw [← tC_mul (op := cdA x2 i23 go) (w := ww) (b := bb) (by omega)] at hp
                | rw [← tC_div (op := cdA x2 i23 go) (w := ww) (b := bb) (by omega) (by omega)] at hp
                | rw [← tC_rem (op := cdA x2 i23 go) (w := ww) (b := bb) (by omega) (by omega) (by omega)] at hp
                | rw [← tC_div1 (op := cdA x2 i23 go) (w := ww) (b := bb) (by omega) (by omega) (by omega)] at hp
                | rw [← tC_div0 (op := cdA x2 i23 go) (w := ww) (b := bb) (by omega) (by omega) (by omega)] at hp
                | rw [← tC_rem1 (op := cdA x2 i23 go) (w := ww) (b := bb) (by omega) (by omega) (by omega) (by omega)] at hp
                | rw [← tC_rem0 (op := cdA x2 i23 go) (w := ww) (b := bb) (by omega) (by omega) (by omega) (by omega)] at hp
                subst hp
                refine j_lstore_n d_Mod_termOf_164 (by decide) ?_
                show SJ _ _ _ _ [_, _, _, _, _, _, _] _ _ _ _ _
                refine j_goto (t := 6) d_Mod_termOf_165 (by decide) ?_
                refine SJ.mask [true, true, true, true, false, false, true] ?_
                show SJ _ _ _ _ [_, _, _, none, none, none, none] _ _ _ _ _
                exact ih _ (by omega) _ _ _ _ _ _ rfl hr2 (tC_b hb2) hL2
            · refine z_iconst d_Mod_termOf_110 ?_
              refine j_goto (t := 115) d_Mod_termOf_111 (by decide) ?_
              refine mp_broken f_Mod_259 d_Mod_termOf_115 (by first | exact Or.inl rfl | exact Or.inr rfl | assumption | omega) ?_
              refine z_lconst (v := 1) d_Mod_termOf_118 (by decide) ?_
              refine j_lstore d_Mod_termOf_119 (by decide) ?_
              show SJ _ _ _ _ [_, _, _, _, _, _, _] _ _ _ _ _
              refine j_aload_n d_Mod_termOf_121 rfl ?_
              refine j_iload d_Mod_termOf_122 rfl ?_
              refine z_bipush d_Mod_termOf_124 (by decide) ?_
              refine s_call1 d_Mod_termOf_126 c_Mod_208 (Nat.le_of_ble_eq_true rfl) (t_Mod_sign  ?_)
              refine z_icmp_ne (t := 139) d_Mod_termOf_129 (by decide) (by first | omega | exact hw _ | exact hx _ _ | assumption) (by first | omega | exact hw _ | exact hx _ _ | assumption) (fun _ => ?_) (fun hq => by exfalso; omega)
              refine j_iload d_Mod_termOf_139 rfl ?_
              refine z_bipush d_Mod_termOf_141 (by decide) ?_
              refine s_call1 d_Mod_termOf_143 c_Mod_208 (Nat.le_of_ble_eq_true rfl) (t_Mod_sign  ?_)
              refine z_icmp_ne (t := 156) d_Mod_termOf_146 (by decide) (by first | omega | exact hw _ | exact hx _ _ | assumption) (by first | omega | exact hw _ | exact hx _ _ | assumption) (fun h146 => ?_) (fun h146 => ?_)
              · refine j_lload_n d_Mod_termOf_156 rfl ?_
                refine j_lload d_Mod_termOf_157 rfl ?_
                refine z_lrem d_Mod_termOf_159 (by omega) (by omega) (by omega) ?_
                refine j_iload_n d_Mod_termOf_160 rfl ?_
                refine v_call2 d_Mod_termOf_161 c_Mod_266 rfl ⟨_, rfl, rfl⟩ (Nat.le_of_ble_eq_true rfl) (t_Mod_bounded (by first | exact rg_mul ra hw2 | (exact ⟨Int.le_trans (by decide) (rg_div ra).1, Int.lt_of_le_of_lt (rg_div ra).2 (by decide)⟩) | (exact ⟨Int.le_trans (by decide) (rg_mod ra).1, Int.lt_of_le_of_lt (rg_mod ra).2 (by decide)⟩) | omega) hl (by first | exact hb2 | exact Or.inl rfl | exact Or.inr rfl) (fun p hp => ?_))
                first
                | rw [← tC_mul (op := cdA x2 i23 go) (w := ww) (b := bb) (by omega)] at hp
                | rw [← tC_div (op := cdA x2 i23 go) (w := ww) (b := bb) (by omega) (by omega)] at hp
                | rw [← tC_rem (op := cdA x2 i23 go) (w := ww) (b := bb) (by omega) (by omega) (by omega)] at hp
                | rw [← tC_div1 (op := cdA x2 i23 go) (w := ww) (b := bb) (by omega) (by omega) (by omega)] at hp
                | rw [← tC_div0 (op := cdA x2 i23 go) (w := ww) (b := bb) (by omega) (by omega) (by omega)] at hp
                | rw [← tC_rem1 (op := cdA x2 i23 go) (w := ww) (b := bb) (by omega) (by omega) (by omega) (by omega)] at hp
                | rw [← tC_rem0 (op := cdA x2 i23 go) (w := ww) (b := bb) (by omega) (by omega) (by omega) (by omega)] at hp
                subst hp
                refine j_lstore_n d_Mod_termOf_164 (by decide) ?_
                show SJ _ _ _ _ [_, _, _, _, _, _, _] _ _ _ _ _
                refine j_goto (t := 6) d_Mod_termOf_165 (by decide) ?_
                refine SJ.mask [true, true, true, true, false, false, true] ?_
                show SJ _ _ _ _ [_, _, _, none, none, none, none] _ _ _ _ _
                exact ih _ (by omega) _ _ _ _ _ _ rfl hr2 (tC_b hb2) hL2
              · refine j_lload_n d_Mod_termOf_149 rfl ?_
                refine j_lload d_Mod_termOf_150 rfl ?_
                refine z_ldiv d_Mod_termOf_152 (by omega) (by omega) (by omega) ?_
                refine j_goto (t := 160) d_Mod_termOf_153 (by decide) ?_
                refine j_iload_n d_Mod_termOf_160 rfl ?_
                refine v_call2 d_Mod_termOf_161 c_Mod_266 rfl ⟨_, rfl, rfl⟩ (Nat.le_of_ble_eq_true rfl) (t_Mod_bounded (by first | exact rg_mul ra hw2 | (exact ⟨Int.le_trans (by decide) (rg_div ra).1, Int.lt_of_le_of_lt (rg_div ra).2 (by decide)⟩) | (exact ⟨Int.le_trans (by decide) (rg_mod ra).1, Int.lt_of_le_of_lt (rg_mod ra).2 (by decide)⟩) | omega) hl (by first | exact hb2 | exact Or.inl rfl | exact Or.inr rfl) (fun p hp => ?_))
                first
                | rw [← tC_mul (op := cdA x2 i23 go) (w := ww) (b := bb) (by omega)] at hp
                | rw [← tC_div (op := cdA x2 i23 go) (w := ww) (b := bb) (by omega) (by omega)] at hp
                | rw [← tC_rem (op := cdA x2 i23 go) (w := ww) (b := bb) (by omega) (by omega) (by omega)] at hp
                | rw [← tC_div1 (op := cdA x2 i23 go) (w := ww) (b := bb) (by omega) (by omega) (by omega)] at hp
                | rw [← tC_div0 (op := cdA x2 i23 go) (w := ww) (b := bb) (by omega) (by omega) (by omega)] at hp
                | rw [← tC_rem1 (op := cdA x2 i23 go) (w := ww) (b := bb) (by omega) (by omega) (by omega) (by omega)] at hp
                | rw [← tC_rem0 (op := cdA x2 i23 go) (w := ww) (b := bb) (by omega) (by omega) (by omega) (by omega)] at hp
                subst hp
                refine j_lstore_n d_Mod_termOf_164 (by decide) ?_
                show SJ _ _ _ _ [_, _, _, _, _, _, _] _ _ _ _ _
                refine j_goto (t := 6) d_Mod_termOf_165 (by decide) ?_
                refine SJ.mask [true, true, true, true, false, false, true] ?_
                show SJ _ _ _ _ [_, _, _, none, none, none, none] _ _ _ _ _
                exact ih _ (by omega) _ _ _ _ _ _ rfl hr2 (tC_b hb2) hL2
    · refine j_aload_n d_Mod_termOf_38 rfl ?_
      refine j_aload_n d_Mod_termOf_39 rfl ?_
      refine mg_go f_Mod_249 d_Mod_termOf_40 ?_
      refine v_call1 d_Mod_termOf_43 c_Mod_252 rfl ⟨_, rfl, rfl⟩ (Nat.le_of_ble_eq_true rfl) (t_Mod_codeAt hC e0 e1 (by omega) (by omega) ?_)
      refine z_bipush d_Mod_termOf_46 (by decide) ?_
      refine s_call1 d_Mod_termOf_48 c_Mod_208 (Nat.le_of_ble_eq_true rfl) (t_Mod_sign  ?_)
      refine z_icmp_ne (t := 168) d_Mod_termOf_51 (by decide) (by first | omega | exact hw _ | exact hx _ _ | assumption) (by first | omega | exact hw _ | exact hx _ _ | assumption) (fun h51 => ?_) (fun h51 => ?_)
      · obtain ⟨hno, rfl, rfl, rfl⟩ := (Hd.out hcase).resolve_left (fun q => absurd q.1 (by omega))
        refine j_lload_n d_Mod_termOf_168 rfl ?_
        exact j_lreturn rfl d_Mod_termOf_169 (hQ _ _)
      · obtain ⟨hop, ww, gg, bb, hP2, hw2, hb2, hr2, hL2⟩ := (Hd.out hcase).resolve_right (fun q => q.1 (by omega))
        refine j_aload_n d_Mod_termOf_54 rfl ?_
        refine j_aload_n d_Mod_termOf_55 rfl ?_
        refine mg_go f_Mod_249 d_Mod_termOf_56 ?_
        refine v_call1 d_Mod_termOf_59 c_Mod_252 rfl ⟨_, rfl, rfl⟩ (Nat.le_of_ble_eq_true rfl) (t_Mod_codeAt hC e0 e1 (by omega) (by omega) ?_)
        refine j_istore d_Mod_termOf_62 (by decide) ?_
        show SJ _ _ _ _ [_, _, _, _, _, _, _] _ _ _ _ _
        refine j_aload_n d_Mod_termOf_64 rfl ?_
        refine j_dup d_Mod_termOf_65 rfl ?_
        refine mg_go f_Mod_249 d_Mod_termOf_66 ?_
        refine z_iconst d_Mod_termOf_69 ?_
        refine z_iadd d_Mod_termOf_70 ?_
        refine mp_go f_Mod_249 d_Mod_termOf_71 ?_
        refine j_aload_n d_Mod_termOf_74 rfl ?_
        refine j_iload_n d_Mod_termOf_75 rfl ?_
        refine v_call1 d_Mod_termOf_76 c_Mod_270 rfl ⟨_, rfl, rfl⟩ (Nat.le_of_ble_eq_true rfl) (hP live (go + 1) br _ _ _ _ _ _ hP2 hl hb (fun y29 y30 => ?_))
        refine j_lstore d_Mod_termOf_79 (by decide) ?_
        show SJ _ _ _ _ [_, _, _, _, _, _, _] _ _ _ _ _
        refine j_iload d_Mod_termOf_81 rfl ?_
        refine z_bipush d_Mod_termOf_83 (by decide) ?_
        refine s_call1 d_Mod_termOf_85 c_Mod_208 (Nat.le_of_ble_eq_true rfl) (t_Mod_sign  ?_)
        refine z_icmp_eq (t := 121) d_Mod_termOf_88 (by decide) (by first | omega | exact hw _ | exact hx _ _ | assumption) (by first | omega | exact hw _ | exact hx _ _ | assumption) (fun h88 => ?_) (fun h88 => ?_)
        · refine j_aload_n d_Mod_termOf_121 rfl ?_
          refine j_iload d_Mod_termOf_122 rfl ?_
          refine z_bipush d_Mod_termOf_124 (by decide) ?_
          refine s_call1 d_Mod_termOf_126 c_Mod_208 (Nat.le_of_ble_eq_true rfl) (t_Mod_sign  ?_)
          refine z_icmp_ne (t := 139) d_Mod_termOf_129 (by decide) (by first | omega | exact hw _ | exact hx _ _ | assumption) (by first | omega | exact hw _ | exact hx _ _ | assumption) (fun hq => by exfalso; omega) (fun _ => ?_)
          refine j_lload_n d_Mod_termOf_132 rfl ?_
          refine j_lload d_Mod_termOf_133 rfl ?_
          refine z_lmul d_Mod_termOf_135 ?_
          refine j_goto (t := 160) d_Mod_termOf_136 (by decide) ?_
          refine j_iload_n d_Mod_termOf_160 rfl ?_
          refine v_call2 d_Mod_termOf_161 c_Mod_266 rfl ⟨_, rfl, rfl⟩ (Nat.le_of_ble_eq_true rfl) (t_Mod_bounded (by first | exact rg_mul ra hw2 | (exact ⟨Int.le_trans (by decide) (rg_div ra).1, Int.lt_of_le_of_lt (rg_div ra).2 (by decide)⟩) | (exact ⟨Int.le_trans (by decide) (rg_mod ra).1, Int.lt_of_le_of_lt (rg_mod ra).2 (by decide)⟩) | omega) hl (by first | exact hb2 | exact Or.inl rfl | exact Or.inr rfl) (fun p hp => ?_))
          first
          | rw [← tC_mul (op := cdA x2 i23 go) (w := ww) (b := bb) (by omega)] at hp
          | rw [← tC_div (op := cdA x2 i23 go) (w := ww) (b := bb) (by omega) (by omega)] at hp
          | rw [← tC_rem (op := cdA x2 i23 go) (w := ww) (b := bb) (by omega) (by omega) (by omega)] at hp
          | rw [← tC_div1 (op := cdA x2 i23 go) (w := ww) (b := bb) (by omega) (by omega) (by omega)] at hp
          | rw [← tC_div0 (op := cdA x2 i23 go) (w := ww) (b := bb) (by omega) (by omega) (by omega)] at hp
          | rw [← tC_rem1 (op := cdA x2 i23 go) (w := ww) (b := bb) (by omega) (by omega) (by omega) (by omega)] at hp
          | rw [← tC_rem0 (op := cdA x2 i23 go) (w := ww) (b := bb) (by omega) (by omega) (by omega) (by omega)] at hp
          subst hp
          refine j_lstore_n d_Mod_termOf_164 (by decide) ?_
          show SJ _ _ _ _ [_, _, _, _, _, _, _] _ _ _ _ _
          refine j_goto (t := 6) d_Mod_termOf_165 (by decide) ?_
          refine SJ.mask [true, true, true, true, false, false, true] ?_
          show SJ _ _ _ _ [_, _, _, none, none, none, none] _ _ _ _ _
          exact ih _ (by omega) _ _ _ _ _ _ rfl hr2 (tC_b hb2) hL2
        · refine j_lload d_Mod_termOf_91 rfl ?_
          refine z_lconst (v := 0) d_Mod_termOf_93 (by decide) ?_
          refine z_lcmp_ne (t := 121) d_Mod_termOf_94 d_Mod_termOf_95 (by decide) (by first | omega | exact hw _ | exact hx _ _ | assumption) (by first | omega | exact hw _ | exact hx _ _ | assumption) (fun h94 => ?_) (fun h94 => ?_)
          · refine j_aload_n d_Mod_termOf_121 rfl ?_
            refine j_iload d_Mod_termOf_122 rfl ?_
            refine z_bipush d_Mod_termOf_124 (by decide) ?_
            refine s_call1 d_Mod_termOf_126 c_Mod_208 (Nat.le_of_ble_eq_true rfl) (t_Mod_sign  ?_)
            refine z_icmp_ne (t := 139) d_Mod_termOf_129 (by decide) (by first | omega | exact hw _ | exact hx _ _ | assumption) (by first | omega | exact hw _ | exact hx _ _ | assumption) (fun _ => ?_) (fun hq => by exfalso; omega)
            refine j_iload d_Mod_termOf_139 rfl ?_
            refine z_bipush d_Mod_termOf_141 (by decide) ?_
            refine s_call1 d_Mod_termOf_143 c_Mod_208 (Nat.le_of_ble_eq_true rfl) (t_Mod_sign  ?_)
            refine z_icmp_ne (t := 156) d_Mod_termOf_146 (by decide) (by first | omega | exact hw _ | exact hx _ _ | assumption) (by first | omega | exact hw _ | exact hx _ _ | assumption) (fun h146 => ?_) (fun h146 => ?_)
            · refine j_lload_n d_Mod_termOf_156 rfl ?_
              refine j_lload d_Mod_termOf_157 rfl ?_
              refine z_lrem d_Mod_termOf_159 (by omega) (by omega) (by omega) ?_
              refine j_iload_n d_Mod_termOf_160 rfl ?_
              refine v_call2 d_Mod_termOf_161 c_Mod_266 rfl ⟨_, rfl, rfl⟩ (Nat.le_of_ble_eq_true rfl) (t_Mod_bounded (by first | exact rg_mul ra hw2 | (exact ⟨Int.le_trans (by decide) (rg_div ra).1, Int.lt_of_le_of_lt (rg_div ra).2 (by decide)⟩) | (exact ⟨Int.le_trans (by decide) (rg_mod ra).1, Int.lt_of_le_of_lt (rg_mod ra).2 (by decide)⟩) | omega) hl (by first | exact hb2 | exact Or.inl rfl | exact Or.inr rfl) (fun p hp => ?_))
              first
              | rw [← tC_mul (op := cdA x2 i23 go) (w := ww) (b := bb) (by omega)] at hp
              | rw [← tC_div (op := cdA x2 i23 go) (w := ww) (b := bb) (by omega) (by omega)] at hp
              | rw [← tC_rem (op := cdA x2 i23 go) (w := ww) (b := bb) (by omega) (by omega) (by omega)] at hp
              | rw [← tC_div1 (op := cdA x2 i23 go) (w := ww) (b := bb) (by omega) (by omega) (by omega)] at hp
              | rw [← tC_div0 (op := cdA x2 i23 go) (w := ww) (b := bb) (by omega) (by omega) (by omega)] at hp
              | rw [← tC_rem1 (op := cdA x2 i23 go) (w := ww) (b := bb) (by omega) (by omega) (by omega) (by omega)] at hp
              | rw [← tC_rem0 (op := cdA x2 i23 go) (w := ww) (b := bb) (by omega) (by omega) (by omega) (by omega)] at hp
              subst hp
              refine j_lstore_n d_Mod_termOf_164 (by decide) ?_
              show SJ _ _ _ _ [_, _, _, _, _, _, _] _ _ _ _ _
              refine j_goto (t := 6) d_Mod_termOf_165 (by decide) ?_
              refine SJ.mask [true, true, true, true, false, false, true] ?_
              show SJ _ _ _ _ [_, _, _, none, none, none, none] _ _ _ _ _
              exact ih _ (by omega) _ _ _ _ _ _ rfl hr2 (tC_b hb2) hL2
            · refine j_lload_n d_Mod_termOf_149 rfl ?_
              refine j_lload d_Mod_termOf_150 rfl ?_
              refine z_ldiv d_Mod_termOf_152 (by omega) (by omega) (by omega) ?_
              refine j_goto (t := 160) d_Mod_termOf_153 (by decide) ?_
              refine j_iload_n d_Mod_termOf_160 rfl ?_
              refine v_call2 d_Mod_termOf_161 c_Mod_266 rfl ⟨_, rfl, rfl⟩ (Nat.le_of_ble_eq_true rfl) (t_Mod_bounded (by first | exact rg_mul ra hw2 | (exact ⟨Int.le_trans (by decide) (rg_div ra).1, Int.lt_of_le_of_lt (rg_div ra).2 (by decide)⟩) | (exact ⟨Int.le_trans (by decide) (rg_mod ra).1, Int.lt_of_le_of_lt (rg_mod ra).2 (by decide)⟩) | omega) hl (by first | exact hb2 | exact Or.inl rfl | exact Or.inr rfl) (fun p hp => ?_))
              first
              | rw [← tC_mul (op := cdA x2 i23 go) (w := ww) (b := bb) (by omega)] at hp
              | rw [← tC_div (op := cdA x2 i23 go) (w := ww) (b := bb) (by omega) (by omega)] at hp
              | rw [← tC_rem (op := cdA x2 i23 go) (w := ww) (b := bb) (by omega) (by omega) (by omega)] at hp
              | rw [← tC_div1 (op := cdA x2 i23 go) (w := ww) (b := bb) (by omega) (by omega) (by omega)] at hp
              | rw [← tC_div0 (op := cdA x2 i23 go) (w := ww) (b := bb) (by omega) (by omega) (by omega)] at hp
              | rw [← tC_rem1 (op := cdA x2 i23 go) (w := ww) (b := bb) (by omega) (by omega) (by omega) (by omega)] at hp
              | rw [← tC_rem0 (op := cdA x2 i23 go) (w := ww) (b := bb) (by omega) (by omega) (by omega) (by omega)] at hp
              subst hp
              refine j_lstore_n d_Mod_termOf_164 (by decide) ?_
              show SJ _ _ _ _ [_, _, _, _, _, _, _] _ _ _ _ _
              refine j_goto (t := 6) d_Mod_termOf_165 (by decide) ?_
              refine SJ.mask [true, true, true, true, false, false, true] ?_
              show SJ _ _ _ _ [_, _, _, none, none, none, none] _ _ _ _ _
              exact ih _ (by omega) _ _ _ _ _ _ rfl hr2 (tC_b hb2) hL2
          · refine j_aload_n d_Mod_termOf_98 rfl ?_
            refine j_aload_n d_Mod_termOf_99 rfl ?_
            refine mg_broken f_Mod_259 d_Mod_termOf_100 ?_
            refine z_if_ne (t := 110) d_Mod_termOf_103 (by decide) (by first | omega | exact hw _ | exact hx _ _ | assumption) (fun h103 => ?_) (fun h103 => ?_)
            · refine z_iconst d_Mod_termOf_110 ?_
              refine j_goto (t := 115) d_Mod_termOf_111 (by decide) ?_
              refine mp_broken f_Mod_259 d_Mod_termOf_115 (by first | exact Or.inl rfl | exact Or.inr rfl | assumption | omega) ?_
              refine z_lconst (v := 1) d_Mod_termOf_118 (by decide) ?_
              refine j_lstore d_Mod_termOf_119 (by decide) ?_
              show SJ _ _ _ _ [_, _, _, _, _, _, _] _ _ _ _ _
              refine j_aload_n d_Mod_termOf_121 rfl ?_
              refine j_iload d_Mod_termOf_122 rfl ?_
              refine z_bipush d_Mod_termOf_124 (by decide) ?_
              refine s_call1 d_Mod_termOf_126 c_Mod_208 (Nat.le_of_ble_eq_true rfl) (t_Mod_sign  ?_)
              refine z_icmp_ne (t := 139) d_Mod_termOf_129 (by decide) (by first | omega | exact hw _ | exact hx _ _ | assumption) (by first | omega | exact hw _ | exact hx _ _ | assumption) (fun _ => ?_) (fun hq => by exfalso; omega)
              refine j_iload d_Mod_termOf_139 rfl ?_
              refine z_bipush d_Mod_termOf_141 (by decide) ?_
              refine s_call1 d_Mod_termOf_143 c_Mod_208 (Nat.le_of_ble_eq_true rfl) (t_Mod_sign  ?_)
              refine z_icmp_ne (t := 156) d_Mod_termOf_146 (by decide) (by first | omega | exact hw _ | exact hx _ _ | assumption) (by first | omega | exact hw _ | exact hx _ _ | assumption) (fun h146 => ?_) (fun h146 => ?_)
              · refine j_lload_n d_Mod_termOf_156 rfl ?_
                refine j_lload d_Mod_termOf_157 rfl ?_
                refine z_lrem d_Mod_termOf_159 (by omega) (by omega) (by omega) ?_
                refine j_iload_n d_Mod_termOf_160 rfl ?_
                refine v_call2 d_Mod_termOf_161 c_Mod_266 rfl ⟨_, rfl, rfl⟩ (Nat.le_of_ble_eq_true rfl) (t_Mod_bounded (by first | exact rg_mul ra hw2 | (exact ⟨Int.le_trans (by decide) (rg_div ra).1, Int.lt_of_le_of_lt (rg_div ra).2 (by decide)⟩) | (exact ⟨Int.le_trans (by decide) (rg_mod ra).1, Int.lt_of_le_of_lt (rg_mod ra).2 (by decide)⟩) | omega) hl (by first | exact hb2 | exact Or.inl rfl | exact Or.inr rfl) (fun p hp => ?_))
                first
                | rw [← tC_mul (op := cdA x2 i23 go) (w := ww) (b := bb) (by omega)] at hp
                | rw [← tC_div (op := cdA x2 i23 go) (w := ww) (b := bb) (by omega) (by omega)] at hp
                | rw [← tC_rem (op := cdA x2 i23 go) (w := ww) (b := bb) (by omega) (by omega) (by omega)] at hp
                | rw [← tC_div1 (op := cdA x2 i23 go) (w := ww) (b := bb) (by omega) (by omega) (by omega)] at hp
                | rw [← tC_div0 (op := cdA x2 i23 go) (w := ww) (b := bb) (by omega) (by omega) (by omega)] at hp
                | rw [← tC_rem1 (op := cdA x2 i23 go) (w := ww) (b := bb) (by omega) (by omega) (by omega) (by omega)] at hp
                | rw [← tC_rem0 (op := cdA x2 i23 go) (w := ww) (b := bb) (by omega) (by omega) (by omega) (by omega)] at hp
                subst hp
                refine j_lstore_n d_Mod_termOf_164 (by decide) ?_
                show SJ _ _ _ _ [_, _, _, _, _, _, _] _ _ _ _ _
                refine j_goto (t := 6) d_Mod_termOf_165 (by decide) ?_
                refine SJ.mask [true, true, true, true, false, false, true] ?_
                show SJ _ _ _ _ [_, _, _, none, none, none, none] _ _ _ _ _
                exact ih _ (by omega) _ _ _ _ _ _ rfl hr2 (tC_b hb2) hL2
              · refine j_lload_n d_Mod_termOf_149 rfl ?_
                refine j_lload d_Mod_termOf_150 rfl ?_
                refine z_ldiv d_Mod_termOf_152 (by omega) (by omega) (by omega) ?_
                refine j_goto (t := 160) d_Mod_termOf_153 (by decide) ?_
                refine j_iload_n d_Mod_termOf_160 rfl ?_
                refine v_call2 d_Mod_termOf_161 c_Mod_266 rfl ⟨_, rfl, rfl⟩ (Nat.le_of_ble_eq_true rfl) (t_Mod_bounded (by first | exact rg_mul ra hw2 | (exact ⟨Int.le_trans (by decide) (rg_div ra).1, Int.lt_of_le_of_lt (rg_div ra).2 (by decide)⟩) | (exact ⟨Int.le_trans (by decide) (rg_mod ra).1, Int.lt_of_le_of_lt (rg_mod ra).2 (by decide)⟩) | omega) hl (by first | exact hb2 | exact Or.inl rfl | exact Or.inr rfl) (fun p hp => ?_))
                first
                | rw [← tC_mul (op := cdA x2 i23 go) (w := ww) (b := bb) (by omega)] at hp
                | rw [← tC_div (op := cdA x2 i23 go) (w := ww) (b := bb) (by omega) (by omega)] at hp
                | rw [← tC_rem (op := cdA x2 i23 go) (w := ww) (b := bb) (by omega) (by omega) (by omega)] at hp
                | rw [← tC_div1 (op := cdA x2 i23 go) (w := ww) (b := bb) (by omega) (by omega) (by omega)] at hp
                | rw [← tC_div0 (op := cdA x2 i23 go) (w := ww) (b := bb) (by omega) (by omega) (by omega)] at hp
                | rw [← tC_rem1 (op := cdA x2 i23 go) (w := ww) (b := bb) (by omega) (by omega) (by omega) (by omega)] at hp
                | rw [← tC_rem0 (op := cdA x2 i23 go) (w := ww) (b := bb) (by omega) (by omega) (by omega) (by omega)] at hp
                subst hp
                refine j_lstore_n d_Mod_termOf_164 (by decide) ?_
                show SJ _ _ _ _ [_, _, _, _, _, _, _] _ _ _ _ _
                refine j_goto (t := 6) d_Mod_termOf_165 (by decide) ?_
                refine SJ.mask [true, true, true, true, false, false, true] ?_
                show SJ _ _ _ _ [_, _, _, none, none, none, none] _ _ _ _ _
                exact ih _ (by omega) _ _ _ _ _ _ rfl hr2 (tC_b hb2) hL2
            · refine j_iload_n d_Mod_termOf_106 rfl ?_
              refine z_if_eq (t := 114) d_Mod_termOf_107 (by decide) (by first | omega | exact hw _ | exact hx _ _ | assumption) (fun h107 => ?_) (fun h107 => ?_)
              · refine z_iconst d_Mod_termOf_114 ?_
                refine mp_broken f_Mod_259 d_Mod_termOf_115 (by first | exact Or.inl rfl | exact Or.inr rfl | assumption | omega) ?_
                refine z_lconst (v := 1) d_Mod_termOf_118 (by decide) ?_
                refine j_lstore d_Mod_termOf_119 (by decide) ?_
                show SJ _ _ _ _ [_, _, _, _, _, _, _] _ _ _ _ _
                refine j_aload_n d_Mod_termOf_121 rfl ?_
                refine j_iload d_Mod_termOf_122 rfl ?_
                refine z_bipush d_Mod_termOf_124 (by decide) ?_
                refine s_call1 d_Mod_termOf_126 c_Mod_208 (Nat.le_of_ble_eq_true rfl) (t_Mod_sign  ?_)
                refine z_icmp_ne (t := 139) d_Mod_termOf_129 (by decide) (by first | omega | exact hw _ | exact hx _ _ | assumption) (by first | omega | exact hw _ | exact hx _ _ | assumption) (fun _ => ?_) (fun hq => by exfalso; omega)
                refine j_iload d_Mod_termOf_139 rfl ?_
                refine z_bipush d_Mod_termOf_141 (by decide) ?_
                refine s_call1 d_Mod_termOf_143 c_Mod_208 (Nat.le_of_ble_eq_true rfl) (t_Mod_sign  ?_)
                refine z_icmp_ne (t := 156) d_Mod_termOf_146 (by decide) (by first | omega | exact hw _ | exact hx _ _ | assumption) (by first | omega | exact hw _ | exact hx _ _ | assumption) (fun h146 => ?_) (fun h146 => ?_)
                · refine j_lload_n d_Mod_termOf_156 rfl ?_
                  refine j_lload d_Mod_termOf_157 rfl ?_
                  refine z_lrem d_Mod_termOf_159 (by omega) (by omega) (by omega) ?_
                  refine j_iload_n d_Mod_termOf_160 rfl ?_
                  refine v_call2 d_Mod_termOf_161 c_Mod_266 rfl ⟨_, rfl, rfl⟩ (Nat.le_of_ble_eq_true rfl) (t_Mod_bounded (by first | exact rg_mul ra hw2 | (exact ⟨Int.le_trans (by decide) (rg_div ra).1, Int.lt_of_le_of_lt (rg_div ra).2 (by decide)⟩) | (exact ⟨Int.le_trans (by decide) (rg_mod ra).1, Int.lt_of_le_of_lt (rg_mod ra).2 (by decide)⟩) | omega) hl (by first | exact hb2 | exact Or.inl rfl | exact Or.inr rfl) (fun p hp => ?_))
                  first
                  | rw [← tC_mul (op := cdA x2 i23 go) (w := ww) (b := bb) (by omega)] at hp
                  | rw [← tC_div (op := cdA x2 i23 go) (w := ww) (b := bb) (by omega) (by omega)] at hp
                  | rw [← tC_rem (op := cdA x2 i23 go) (w := ww) (b := bb) (by omega) (by omega) (by omega)] at hp
                  | rw [← tC_div1 (op := cdA x2 i23 go) (w := ww) (b := bb) (by omega) (by omega) (by omega)] at hp
                  | rw [← tC_div0 (op := cdA x2 i23 go) (w := ww) (b := bb) (by omega) (by omega) (by omega)] at hp
                  | rw [← tC_rem1 (op := cdA x2 i23 go) (w := ww) (b := bb) (by omega) (by omega) (by omega) (by omega)] at hp
                  | rw [← tC_rem0 (op := cdA x2 i23 go) (w := ww) (b := bb) (by omega) (by omega) (by omega) (by omega)] at hp
                  subst hp
                  refine j_lstore_n d_Mod_termOf_164 (by decide) ?_
                  show SJ _ _ _ _ [_, _, _, _, _, _, _] _ _ _ _ _
                  refine j_goto (t := 6) d_Mod_termOf_165 (by decide) ?_
                  refine SJ.mask [true, true, true, true, false, false, true] ?_
                  show SJ _ _ _ _ [_, _, _, none, none, none, none] _ _ _ _ _
                  exact ih _ (by omega) _ _ _ _ _ _ rfl hr2 (tC_b hb2) hL2
                · refine j_lload_n d_Mod_termOf_149 rfl ?_
                  refine j_lload d_Mod_termOf_150 rfl ?_
                  refine z_ldiv d_Mod_termOf_152 (by omega) (by omega) (by omega) ?_
                  refine j_goto (t := 160) d_Mod_termOf_153 (by decide) ?_
                  refine j_iload_n d_Mod_termOf_160 rfl ?_
                  refine v_call2 d_Mod_termOf_161 c_Mod_266 rfl ⟨_, rfl, rfl⟩ (Nat.le_of_ble_eq_true rfl) (t_Mod_bounded (by first | exact rg_mul ra hw2 | (exact ⟨Int.le_trans (by decide) (rg_div ra).1, Int.lt_of_le_of_lt (rg_div ra).2 (by decide)⟩) | (exact ⟨Int.le_trans (by decide) (rg_mod ra).1, Int.lt_of_le_of_lt (rg_mod ra).2 (by decide)⟩) | omega) hl (by first | exact hb2 | exact Or.inl rfl | exact Or.inr rfl) (fun p hp => ?_))
                  first
                  | rw [← tC_mul (op := cdA x2 i23 go) (w := ww) (b := bb) (by omega)] at hp
                  | rw [← tC_div (op := cdA x2 i23 go) (w := ww) (b := bb) (by omega) (by omega)] at hp
                  | rw [← tC_rem (op := cdA x2 i23 go) (w := ww) (b := bb) (by omega) (by omega) (by omega)] at hp
                  | rw [← tC_div1 (op := cdA x2 i23 go) (w := ww) (b := bb) (by omega) (by omega) (by omega)] at hp
                  | rw [← tC_div0 (op := cdA x2 i23 go) (w := ww) (b := bb) (by omega) (by omega) (by omega)] at hp
                  | rw [← tC_rem1 (op := cdA x2 i23 go) (w := ww) (b := bb) (by omega) (by omega) (by omega) (by omega)] at hp
                  | rw [← tC_rem0 (op := cdA x2 i23 go) (w := ww) (b := bb) (by omega) (by omega) (by omega) (by omega)] at hp
                  subst hp
                  refine j_lstore_n d_Mod_termOf_164 (by decide) ?_
                  show SJ _ _ _ _ [_, _, _, _, _, _, _] _ _ _ _ _
                  refine j_goto (t := 6) d_Mod_termOf_165 (by decide) ?_
                  refine SJ.mask [true, true, true, true, false, false, true] ?_
                  show SJ _ _ _ _ [_, _, _, none, none, none, none] _ _ _ _ _
                  exact ih _ (by omega) _ _ _ _ _ _ rfl hr2 (tC_b hb2) hL2
              · refine z_iconst d_Mod_termOf_110 ?_
                refine j_goto (t := 115) d_Mod_termOf_111 (by decide) ?_
                refine mp_broken f_Mod_259 d_Mod_termOf_115 (by first | exact Or.inl rfl | exact Or.inr rfl | assumption | omega) ?_
                refine z_lconst (v := 1) d_Mod_termOf_118 (by decide) ?_
                refine j_lstore d_Mod_termOf_119 (by decide) ?_
                show SJ _ _ _ _ [_, _, _, _, _, _, _] _ _ _ _ _
                refine j_aload_n d_Mod_termOf_121 rfl ?_
                refine j_iload d_Mod_termOf_122 rfl ?_
                refine z_bipush d_Mod_termOf_124 (by decide) ?_
                refine s_call1 d_Mod_termOf_126 c_Mod_208 (Nat.le_of_ble_eq_true rfl) (t_Mod_sign  ?_)
                refine z_icmp_ne (t := 139) d_Mod_termOf_129 (by decide) (by first | omega | exact hw _ | exact hx _ _ | assumption) (by first | omega | exact hw _ | exact hx _ _ | assumption) (fun _ => ?_) (fun hq => by exfalso; omega)
                refine j_iload d_Mod_termOf_139 rfl ?_
                refine z_bipush d_Mod_termOf_141 (by decide) ?_
                refine s_call1 d_Mod_termOf_143 c_Mod_208 (Nat.le_of_ble_eq_true rfl) (t_Mod_sign  ?_)
                refine z_icmp_ne (t := 156) d_Mod_termOf_146 (by decide) (by first | omega | exact hw _ | exact hx _ _ | assumption) (by first | omega | exact hw _ | exact hx _ _ | assumption) (fun h146 => ?_) (fun h146 => ?_)
                · refine j_lload_n d_Mod_termOf_156 rfl ?_
                  refine j_lload d_Mod_termOf_157 rfl ?_
                  refine z_lrem d_Mod_termOf_159 (by omega) (by omega) (by omega) ?_
                  refine j_iload_n d_Mod_termOf_160 rfl ?_
                  refine v_call2 d_Mod_termOf_161 c_Mod_266 rfl ⟨_, rfl, rfl⟩ (Nat.le_of_ble_eq_true rfl) (t_Mod_bounded (by first | exact rg_mul ra hw2 | (exact ⟨Int.le_trans (by decide) (rg_div ra).1, Int.lt_of_le_of_lt (rg_div ra).2 (by decide)⟩) | (exact ⟨Int.le_trans (by decide) (rg_mod ra).1, Int.lt_of_le_of_lt (rg_mod ra).2 (by decide)⟩) | omega) hl (by first | exact hb2 | exact Or.inl rfl | exact Or.inr rfl) (fun p hp => ?_))
                  first
                  | rw [← tC_mul (op := cdA x2 i23 go) (w := ww) (b := bb) (by omega)] at hp
                  | rw [← tC_div (op := cdA x2 i23 go) (w := ww) (b := bb) (by omega) (by omega)] at hp
                  | rw [← tC_rem (op := cdA x2 i23 go) (w := ww) (b := bb) (by omega) (by omega) (by omega)] at hp
                  | rw [← tC_div1 (op := cdA x2 i23 go) (w := ww) (b := bb) (by omega) (by omega) (by omega)] at hp
                  | rw [← tC_div0 (op := cdA x2 i23 go) (w := ww) (b := bb) (by omega) (by omega) (by omega)] at hp
                  | rw [← tC_rem1 (op := cdA x2 i23 go) (w := ww) (b := bb) (by omega) (by omega) (by omega) (by omega)] at hp
                  | rw [← tC_rem0 (op := cdA x2 i23 go) (w := ww) (b := bb) (by omega) (by omega) (by omega) (by omega)] at hp
                  subst hp
                  refine j_lstore_n d_Mod_termOf_164 (by decide) ?_
                  show SJ _ _ _ _ [_, _, _, _, _, _, _] _ _ _ _ _
                  refine j_goto (t := 6) d_Mod_termOf_165 (by decide) ?_
                  refine SJ.mask [true, true, true, true, false, false, true] ?_
                  show SJ _ _ _ _ [_, _, _, none, none, none, none] _ _ _ _ _
                  exact ih _ (by omega) _ _ _ _ _ _ rfl hr2 (tC_b hb2) hL2
                · refine j_lload_n d_Mod_termOf_149 rfl ?_
                  refine j_lload d_Mod_termOf_150 rfl ?_
                  refine z_ldiv d_Mod_termOf_152 (by omega) (by omega) (by omega) ?_
                  refine j_goto (t := 160) d_Mod_termOf_153 (by decide) ?_
                  refine j_iload_n d_Mod_termOf_160 rfl ?_
                  refine v_call2 d_Mod_termOf_161 c_Mod_266 rfl ⟨_, rfl, rfl⟩ (Nat.le_of_ble_eq_true rfl) (t_Mod_bounded (by first | exact rg_mul ra hw2 | (exact ⟨Int.le_trans (by decide) (rg_div ra).1, Int.lt_of_le_of_lt (rg_div ra).2 (by decide)⟩) | (exact ⟨Int.le_trans (by decide) (rg_mod ra).1, Int.lt_of_le_of_lt (rg_mod ra).2 (by decide)⟩) | omega) hl (by first | exact hb2 | exact Or.inl rfl | exact Or.inr rfl) (fun p hp => ?_))
                  first
                  | rw [← tC_mul (op := cdA x2 i23 go) (w := ww) (b := bb) (by omega)] at hp
                  | rw [← tC_div (op := cdA x2 i23 go) (w := ww) (b := bb) (by omega) (by omega)] at hp
                  | rw [← tC_rem (op := cdA x2 i23 go) (w := ww) (b := bb) (by omega) (by omega) (by omega)] at hp
                  | rw [← tC_div1 (op := cdA x2 i23 go) (w := ww) (b := bb) (by omega) (by omega) (by omega)] at hp
                  | rw [← tC_div0 (op := cdA x2 i23 go) (w := ww) (b := bb) (by omega) (by omega) (by omega)] at hp
                  | rw [← tC_rem1 (op := cdA x2 i23 go) (w := ww) (b := bb) (by omega) (by omega) (by omega) (by omega)] at hp
                  | rw [← tC_rem0 (op := cdA x2 i23 go) (w := ww) (b := bb) (by omega) (by omega) (by omega) (by omega)] at hp
                  subst hp
                  refine j_lstore_n d_Mod_termOf_164 (by decide) ?_
                  show SJ _ _ _ _ [_, _, _, _, _, _, _] _ _ _ _ _
                  refine j_goto (t := 6) d_Mod_termOf_165 (by decide) ?_
                  refine SJ.mask [true, true, true, true, false, false, true] ?_
                  show SJ _ _ _ _ [_, _, _, none, none, none, none] _ _ _ _ _
                  exact ih _ (by omega) _ _ _ _ _ _ rfl hr2 (tC_b hb2) hL2
theorem t_Mod_termOf {g : Bool} {d : Nat} {Q : List xM → Option Value → Prop} {i0 i6 i8 i9 i10 i13 i14 i18 i19 i20 i21 i22 i23 i24 i25 i27 i28 i33 i42 i43 i44 i45 i46 i47 i48 i51 i52 : Int} {x1 x2 x3 x4 x5 x7 x11 x12 x15 x16 x17 x26 x29 x30 x31 x32 x34 x35 x36 x37 x38 x39 x40 x41 x49 x50 : Int → Int} (hC : ∀ k, 0 ≤ k → k < 2800 → 0 ≤ x2 (33 + k) ∧ x2 (33 + k) ≤ 400) (e0 : 0 ≤ i23) (e1 : i23 ≤ 2800) {P : Int → Int → Int → EV} (hP : ME g m_Mod_partOf (d + 11) i0 i6 i8 i9 i10 i13 i14 i18 i19 i20 i21 i23 i25 i27 i28 i33 i42 i43 i44 i45 i46 i47 i48 i51 i52 x1 x2 x3 x4 x5 x7 x11 x12 x15 x16 x17 x26 x31 x32 x34 x35 x36 x37 x38 x39 x40 x41 x49 x50 P) {live v go2 br2 : Int} (hl : live = 0 ∨ live = 1) (hb : i24 = 0 ∨ i24 = 1) (hF : tE (cdA x2 i23) P live i22 i24 = some (v, go2, br2)) (hQ : ∀ y29 y30, Q (MM i0 i6 i8 i9 i10 i13 i14 i18 i19 i20 i21 go2 i23 br2 i25 i27 i28 i33 i42 i43 i44 i45 i46 i47 i48 i51 i52 x1 x2 x3 x4 x5 x7 x11 x12 x15 x16 x17 x26 y29 y30 x31 x32 x34 x35 x36 x37 x38 x39 x40 x41 x49 x50) (some (.long (ll v))))  : CT g m_Mod_termOf (d + 12) [.ref 0, .int (ii live)] (MM i0 i6 i8 i9 i10 i13 i14 i18 i19 i20 i21 i22 i23 i24 i25 i27 i28 i33 i42 i43 i44 i45 i46 i47 i48 i51 i52 x1 x2 x3 x4 x5 x7 x11 x12 x15 x16 x17 x26 x29 x30 x31 x32 x34 x35 x36 x37 x38 x39 x40 x41 x49 x50) 0 0 Q := by
  refine CT.of (by decide) (Nat.le_of_ble_eq_true rfl) ?_
  show SJ _ _ _ _ [some (.ref 0), some (.int (ii live)), none, none, none, none, none] [] _ _ _ _
  obtain ⟨ww, gg, bb, hP1, hw1, hb1, hL1⟩ := tE_inv hF
  refine j_aload_n d_Mod_termOf_0 rfl ?_
  refine j_iload_n d_Mod_termOf_1 rfl ?_
  refine v_call1 d_Mod_termOf_2 c_Mod_270 rfl ⟨_, rfl, rfl⟩ (Nat.le_of_ble_eq_true rfl) (hP live i22 i24 _ _ _ _ _ _ hP1 hl hb (fun y29 y30 => ?_))
  refine j_lstore_n d_Mod_termOf_5 (by decide) ?_
  show SJ _ _ _ _ [_, _, _, _, _, _, _] _ _ _ _ _
  exact lp_termOf hC e0 e1 hP hl hQ _ 400 _ _ _ _ _ rfl hw1 hb1 hL1
theorem lp_sumOf {g : Bool} {d : Nat} {Q : List xM → Option Value → Prop} {i0 i6 i8 i9 i10 i13 i14 i18 i19 i20 i21 i23 i25 i27 i28 i33 i42 i43 i44 i45 i46 i47 i48 i51 i52 : Int} {x1 x2 x3 x4 x5 x7 x11 x12 x15 x16 x17 x26 x31 x32 x34 x35 x36 x37 x38 x39 x40 x41 x49 x50 : Int → Int} (hC : ∀ k, 0 ≤ k → k < 2800 → 0 ≤ x2 (33 + k) ∧ x2 (33 + k) ≤ 400) (e0 : 0 ≤ i23) (e1 : i23 ≤ 2800) {P : Int → Int → Int → EV} (hP : ME g m_Mod_termOf (d + 12) i0 i6 i8 i9 i10 i13 i14 i18 i19 i20 i21 i23 i25 i27 i28 i33 i42 i43 i44 i45 i46 i47 i48 i51 i52 x1 x2 x3 x4 x5 x7 x11 x12 x15 x16 x17 x26 x31 x32 x34 x35 x36 x37 x38 x39 x40 x41 x49 x50 P) {live v go2 br2 : Int} (hl : live = 0 ∨ live = 1) (hQ : ∀ y29 y30, Q (MM i0 i6 i8 i9 i10 i13 i14 i18 i19 i20 i21 go2 i23 br2 i25 i27 i28 i33 i42 i43 i44 i45 i46 i47 i48 i51 i52 x1 x2 x3 x4 x5 x7 x11 x12 x15 x16 x17 x26 y29 y30 x31 x32 x34 x35 x36 x37 x38 x39 x40 x41 x49 x50) (some (.long (ll v))))  : ∀ (nn : Nat) (k : Nat) (acc : Int) (go : Int) (br : Int) (z29 : Int → Int) (z30 : Int → Int), ((k : Int)).toNat = nn → rgo acc → (br = 0 ∨ br = 1) → sL (cdA x2 i23) P live k acc go br = some (v, go2, br2) → SJ g m_Mod_sumOf (d + 13) 6 [some (.ref 0), some (.int (ii live)), some (.long (ll acc)), none, none, none, none] [] (MM i0 i6 i8 i9 i10 i13 i14 i18 i19 i20 i21 go i23 br i25 i27 i28 i33 i42 i43 i44 i45 i46 i47 i48 i51 i52 x1 x2 x3 x4 x5 x7 x11 x12 x15 x16 x17 x26 z29 z30 x31 x32 x34 x35 x36 x37 x38 x39 x40 x41 x49 x50) 0 0 Q := by
  intro nn
  induction nn using Nat.strongRecOn with
  | ind nn ih =>
  intro k acc go br z29 z30 hn ra hb hF
  obtain ⟨j, rfl, g0, g1, hcase⟩ := sL_inv hF
  have hcr := cdA_R hC e1 g0
  refine j_aload_n d_Mod_sumOf_6 rfl ?_
  refine j_aload_n d_Mod_sumOf_7 rfl ?_
  refine mg_go f_Mod_249 d_Mod_sumOf_8 ?_
  refine v_call1 d_Mod_sumOf_11 c_Mod_252 rfl ⟨_, rfl, rfl⟩ (Nat.le_of_ble_eq_true rfl) (t_Mod_codeAt hC e0 e1 (by omega) (by omega) ?_)
  refine z_bipush d_Mod_sumOf_14 (by decide) ?_
  refine s_call1 d_Mod_sumOf_16 c_Mod_208 (Nat.le_of_ble_eq_true rfl) (t_Mod_sign  ?_)
  refine z_icmp_eq (t := 38) d_Mod_sumOf_19 (by decide) (by first | omega | exact hw _ | exact hx _ _ | assumption) (by first | omega | exact hw _ | exact hx _ _ | assumption) (fun h19 => ?_) (fun h19 => ?_)
  · obtain ⟨hop, ww, gg, bb, hP2, hw2, hb2, hr2, hL2⟩ := (Hd.out hcase).resolve_right (fun q => q.1 (by omega))
    refine j_aload_n d_Mod_sumOf_38 rfl ?_
    refine j_aload_n d_Mod_sumOf_39 rfl ?_
    refine mg_go f_Mod_249 d_Mod_sumOf_40 ?_
    refine v_call1 d_Mod_sumOf_43 c_Mod_252 rfl ⟨_, rfl, rfl⟩ (Nat.le_of_ble_eq_true rfl) (t_Mod_codeAt hC e0 e1 (by omega) (by omega) ?_)
    refine z_bipush d_Mod_sumOf_46 (by decide) ?_
    refine s_call1 d_Mod_sumOf_48 c_Mod_208 (Nat.le_of_ble_eq_true rfl) (t_Mod_sign  ?_)
    refine z_icmp_ne (t := 58) d_Mod_sumOf_51 (by decide) (by first | omega | exact hw _ | exact hx _ _ | assumption) (by first | omega | exact hw _ | exact hx _ _ | assumption) (fun h51 => ?_) (fun h51 => ?_)
    · refine z_iconst d_Mod_sumOf_58 ?_
      refine j_istore d_Mod_sumOf_59 (by decide) ?_
      show SJ _ _ _ _ [_, _, _, _, _, _, _] _ _ _ _ _
      refine j_aload_n d_Mod_sumOf_61 rfl ?_
      refine j_dup d_Mod_sumOf_62 rfl ?_
      refine mg_go f_Mod_249 d_Mod_sumOf_63 ?_
      refine z_iconst d_Mod_sumOf_66 ?_
      refine z_iadd d_Mod_sumOf_67 ?_
      refine mp_go f_Mod_249 d_Mod_sumOf_68 ?_
      refine j_aload_n d_Mod_sumOf_71 rfl ?_
      refine j_iload_n d_Mod_sumOf_72 rfl ?_
      refine v_call1 d_Mod_sumOf_73 c_Mod_262 rfl ⟨_, rfl, rfl⟩ (Nat.le_of_ble_eq_true rfl) (hP live (go + 1) br _ _ _ _ _ _ hP2 hl hb (fun y29 y30 => ?_))
      refine j_lstore d_Mod_sumOf_76 (by decide) ?_
      show SJ _ _ _ _ [_, _, _, _, _, _, _] _ _ _ _ _
      refine j_aload_n d_Mod_sumOf_78 rfl ?_
      refine j_iload d_Mod_sumOf_79 rfl ?_
      refine z_if_eq (t := 91) d_Mod_sumOf_81 (by decide) (by first | omega | exact hw _ | exact hx _ _ | assumption) (fun _ => ?_) (fun h => absurd h (by decide))
      refine j_lload_n d_Mod_sumOf_91 rfl ?_
      refine j_lload d_Mod_sumOf_92 rfl ?_
      refine z_lsub d_Mod_sumOf_94 ?_
      refine j_iload_n d_Mod_sumOf_95 rfl ?_
      refine v_call2 d_Mod_sumOf_96 c_Mod_266 rfl ⟨_, rfl, rfl⟩ (Nat.le_of_ble_eq_true rfl) (t_Mod_bounded (by first | exact rg_mul ra hw2 | (exact ⟨Int.le_trans (by decide) (rg_div ra).1, Int.lt_of_le_of_lt (rg_div ra).2 (by decide)⟩) | (exact ⟨Int.le_trans (by decide) (rg_mod ra).1, Int.lt_of_le_of_lt (rg_mod ra).2 (by decide)⟩) | omega) hl (by first | exact hb2 | exact Or.inl rfl | exact Or.inr rfl) (fun p hp => ?_))
      first
      | rw [← sC_add (op := cdA x2 i23 go) (by omega)] at hp
      | rw [← sC_sub (op := cdA x2 i23 go) (by omega)] at hp
      subst hp
      refine j_lstore_n d_Mod_sumOf_99 (by decide) ?_
      show SJ _ _ _ _ [_, _, _, _, _, _, _] _ _ _ _ _
      refine j_goto (t := 6) d_Mod_sumOf_100 (by decide) ?_
      refine SJ.mask [true, true, true, true, false, false, true] ?_
      show SJ _ _ _ _ [_, _, _, none, none, none, none] _ _ _ _ _
      exact ih _ (by omega) _ _ _ _ _ _ rfl hr2 (sC_b hb2) hL2
    · refine z_iconst d_Mod_sumOf_54 ?_
      refine j_goto (t := 59) d_Mod_sumOf_55 (by decide) ?_
      refine j_istore d_Mod_sumOf_59 (by decide) ?_
      show SJ _ _ _ _ [_, _, _, _, _, _, _] _ _ _ _ _
      refine j_aload_n d_Mod_sumOf_61 rfl ?_
      refine j_dup d_Mod_sumOf_62 rfl ?_
      refine mg_go f_Mod_249 d_Mod_sumOf_63 ?_
      refine z_iconst d_Mod_sumOf_66 ?_
      refine z_iadd d_Mod_sumOf_67 ?_
      refine mp_go f_Mod_249 d_Mod_sumOf_68 ?_
      refine j_aload_n d_Mod_sumOf_71 rfl ?_
      refine j_iload_n d_Mod_sumOf_72 rfl ?_
      refine v_call1 d_Mod_sumOf_73 c_Mod_262 rfl ⟨_, rfl, rfl⟩ (Nat.le_of_ble_eq_true rfl) (hP live (go + 1) br _ _ _ _ _ _ hP2 hl hb (fun y29 y30 => ?_))
      refine j_lstore d_Mod_sumOf_76 (by decide) ?_
      show SJ _ _ _ _ [_, _, _, _, _, _, _] _ _ _ _ _
      refine j_aload_n d_Mod_sumOf_78 rfl ?_
      refine j_iload d_Mod_sumOf_79 rfl ?_
      refine z_if_eq (t := 91) d_Mod_sumOf_81 (by decide) (by first | omega | exact hw _ | exact hx _ _ | assumption) (fun h => absurd h (by decide)) (fun _ => ?_)
      refine j_lload_n d_Mod_sumOf_84 rfl ?_
      refine j_lload d_Mod_sumOf_85 rfl ?_
      refine z_ladd d_Mod_sumOf_87 ?_
      refine j_goto (t := 95) d_Mod_sumOf_88 (by decide) ?_
      refine j_iload_n d_Mod_sumOf_95 rfl ?_
      refine v_call2 d_Mod_sumOf_96 c_Mod_266 rfl ⟨_, rfl, rfl⟩ (Nat.le_of_ble_eq_true rfl) (t_Mod_bounded (by first | exact rg_mul ra hw2 | (exact ⟨Int.le_trans (by decide) (rg_div ra).1, Int.lt_of_le_of_lt (rg_div ra).2 (by decide)⟩) | (exact ⟨Int.le_trans (by decide) (rg_mod ra).1, Int.lt_of_le_of_lt (rg_mod ra).2 (by decide)⟩) | omega) hl (by first | exact hb2 | exact Or.inl rfl | exact Or.inr rfl) (fun p hp => ?_))
      first
      | rw [← sC_add (op := cdA x2 i23 go) (by omega)] at hp
      | rw [← sC_sub (op := cdA x2 i23 go) (by omega)] at hp
      subst hp
      refine j_lstore_n d_Mod_sumOf_99 (by decide) ?_
      show SJ _ _ _ _ [_, _, _, _, _, _, _] _ _ _ _ _
      refine j_goto (t := 6) d_Mod_sumOf_100 (by decide) ?_
      refine SJ.mask [true, true, true, true, false, false, true] ?_
      show SJ _ _ _ _ [_, _, _, none, none, none, none] _ _ _ _ _
      exact ih _ (by omega) _ _ _ _ _ _ rfl hr2 (sC_b hb2) hL2
  · refine j_aload_n d_Mod_sumOf_22 rfl ?_
    refine j_aload_n d_Mod_sumOf_23 rfl ?_
    refine mg_go f_Mod_249 d_Mod_sumOf_24 ?_
    refine v_call1 d_Mod_sumOf_27 c_Mod_252 rfl ⟨_, rfl, rfl⟩ (Nat.le_of_ble_eq_true rfl) (t_Mod_codeAt hC e0 e1 (by omega) (by omega) ?_)
    refine z_bipush d_Mod_sumOf_30 (by decide) ?_
    refine s_call1 d_Mod_sumOf_32 c_Mod_208 (Nat.le_of_ble_eq_true rfl) (t_Mod_sign  ?_)
    refine z_icmp_ne (t := 103) d_Mod_sumOf_35 (by decide) (by first | omega | exact hw _ | exact hx _ _ | assumption) (by first | omega | exact hw _ | exact hx _ _ | assumption) (fun h35 => ?_) (fun h35 => ?_)
    · obtain ⟨hno, rfl, rfl, rfl⟩ := (Hd.out hcase).resolve_left (fun q => absurd q.1 (by omega))
      refine j_lload_n d_Mod_sumOf_103 rfl ?_
      exact j_lreturn rfl d_Mod_sumOf_104 (hQ _ _)
    · obtain ⟨hop, ww, gg, bb, hP2, hw2, hb2, hr2, hL2⟩ := (Hd.out hcase).resolve_right (fun q => q.1 (by omega))
      refine j_aload_n d_Mod_sumOf_38 rfl ?_
      refine j_aload_n d_Mod_sumOf_39 rfl ?_
      refine mg_go f_Mod_249 d_Mod_sumOf_40 ?_
      refine v_call1 d_Mod_sumOf_43 c_Mod_252 rfl ⟨_, rfl, rfl⟩ (Nat.le_of_ble_eq_true rfl) (t_Mod_codeAt hC e0 e1 (by omega) (by omega) ?_)
      refine z_bipush d_Mod_sumOf_46 (by decide) ?_
      refine s_call1 d_Mod_sumOf_48 c_Mod_208 (Nat.le_of_ble_eq_true rfl) (t_Mod_sign  ?_)
      refine z_icmp_ne (t := 58) d_Mod_sumOf_51 (by decide) (by first | omega | exact hw _ | exact hx _ _ | assumption) (by first | omega | exact hw _ | exact hx _ _ | assumption) (fun h51 => ?_) (fun h51 => ?_)
      · refine z_iconst d_Mod_sumOf_58 ?_
        refine j_istore d_Mod_sumOf_59 (by decide) ?_
        show SJ _ _ _ _ [_, _, _, _, _, _, _] _ _ _ _ _
        refine j_aload_n d_Mod_sumOf_61 rfl ?_
        refine j_dup d_Mod_sumOf_62 rfl ?_
        refine mg_go f_Mod_249 d_Mod_sumOf_63 ?_
        refine z_iconst d_Mod_sumOf_66 ?_
        refine z_iadd d_Mod_sumOf_67 ?_
        refine mp_go f_Mod_249 d_Mod_sumOf_68 ?_
        refine j_aload_n d_Mod_sumOf_71 rfl ?_
        refine j_iload_n d_Mod_sumOf_72 rfl ?_
        refine v_call1 d_Mod_sumOf_73 c_Mod_262 rfl ⟨_, rfl, rfl⟩ (Nat.le_of_ble_eq_true rfl) (hP live (go + 1) br _ _ _ _ _ _ hP2 hl hb (fun y29 y30 => ?_))
        refine j_lstore d_Mod_sumOf_76 (by decide) ?_
        show SJ _ _ _ _ [_, _, _, _, _, _, _] _ _ _ _ _
        refine j_aload_n d_Mod_sumOf_78 rfl ?_
        refine j_iload d_Mod_sumOf_79 rfl ?_
        refine z_if_eq (t := 91) d_Mod_sumOf_81 (by decide) (by first | omega | exact hw _ | exact hx _ _ | assumption) (fun _ => ?_) (fun h => absurd h (by decide))
        refine j_lload_n d_Mod_sumOf_91 rfl ?_
        refine j_lload d_Mod_sumOf_92 rfl ?_
        refine z_lsub d_Mod_sumOf_94 ?_
        refine j_iload_n d_Mod_sumOf_95 rfl ?_
        refine v_call2 d_Mod_sumOf_96 c_Mod_266 rfl ⟨_, rfl, rfl⟩ (Nat.le_of_ble_eq_true rfl) (t_Mod_bounded (by first | exact rg_mul ra hw2 | (exact ⟨Int.le_trans (by decide) (rg_div ra).1, Int.lt_of_le_of_lt (rg_div ra).2 (by decide)⟩) | (exact ⟨Int.le_trans (by decide) (rg_mod ra).1, Int.lt_of_le_of_lt (rg_mod ra).2 (by decide)⟩) | omega) hl (by first | exact hb2 | exact Or.inl rfl | exact Or.inr rfl) (fun p hp => ?_))
        first
        | rw [← sC_add (op := cdA x2 i23 go) (by omega)] at hp
        | rw [← sC_sub (op := cdA x2 i23 go) (by omega)] at hp
        subst hp
        refine j_lstore_n d_Mod_sumOf_99 (by decide) ?_
        show SJ _ _ _ _ [_, _, _, _, _, _, _] _ _ _ _ _
        refine j_goto (t := 6) d_Mod_sumOf_100 (by decide) ?_
        refine SJ.mask [true, true, true, true, false, false, true] ?_
        show SJ _ _ _ _ [_, _, _, none, none, none, none] _ _ _ _ _
        exact ih _ (by omega) _ _ _ _ _ _ rfl hr2 (sC_b hb2) hL2
      · refine z_iconst d_Mod_sumOf_54 ?_
        refine j_goto (t := 59) d_Mod_sumOf_55 (by decide) ?_
        refine j_istore d_Mod_sumOf_59 (by decide) ?_
        show SJ _ _ _ _ [_, _, _, _, _, _, _] _ _ _ _ _
        refine j_aload_n d_Mod_sumOf_61 rfl ?_
        refine j_dup d_Mod_sumOf_62 rfl ?_
        refine mg_go f_Mod_249 d_Mod_sumOf_63 ?_
        refine z_iconst d_Mod_sumOf_66 ?_
        refine z_iadd d_Mod_sumOf_67 ?_
        refine mp_go f_Mod_249 d_Mod_sumOf_68 ?_
        refine j_aload_n d_Mod_sumOf_71 rfl ?_
        refine j_iload_n d_Mod_sumOf_72 rfl ?_
        refine v_call1 d_Mod_sumOf_73 c_Mod_262 rfl ⟨_, rfl, rfl⟩ (Nat.le_of_ble_eq_true rfl) (hP live (go + 1) br _ _ _ _ _ _ hP2 hl hb (fun y29 y30 => ?_))
        refine j_lstore d_Mod_sumOf_76 (by decide) ?_
        show SJ _ _ _ _ [_, _, _, _, _, _, _] _ _ _ _ _
        refine j_aload_n d_Mod_sumOf_78 rfl ?_
        refine j_iload d_Mod_sumOf_79 rfl ?_
        refine z_if_eq (t := 91) d_Mod_sumOf_81 (by decide) (by first | omega | exact hw _ | exact hx _ _ | assumption) (fun h => absurd h (by decide)) (fun _ => ?_)
        refine j_lload_n d_Mod_sumOf_84 rfl ?_
        refine j_lload d_Mod_sumOf_85 rfl ?_
        refine z_ladd d_Mod_sumOf_87 ?_
        refine j_goto (t := 95) d_Mod_sumOf_88 (by decide) ?_
        refine j_iload_n d_Mod_sumOf_95 rfl ?_
        refine v_call2 d_Mod_sumOf_96 c_Mod_266 rfl ⟨_, rfl, rfl⟩ (Nat.le_of_ble_eq_true rfl) (t_Mod_bounded (by first | exact rg_mul ra hw2 | (exact ⟨Int.le_trans (by decide) (rg_div ra).1, Int.lt_of_le_of_lt (rg_div ra).2 (by decide)⟩) | (exact ⟨Int.le_trans (by decide) (rg_mod ra).1, Int.lt_of_le_of_lt (rg_mod ra).2 (by decide)⟩) | omega) hl (by first | exact hb2 | exact Or.inl rfl | exact Or.inr rfl) (fun p hp => ?_))
        first
        | rw [← sC_add (op := cdA x2 i23 go) (by omega)] at hp
        | rw [← sC_sub (op := cdA x2 i23 go) (by omega)] at hp
        subst hp
        refine j_lstore_n d_Mod_sumOf_99 (by decide) ?_
        show SJ _ _ _ _ [_, _, _, _, _, _, _] _ _ _ _ _
        refine j_goto (t := 6) d_Mod_sumOf_100 (by decide) ?_
        refine SJ.mask [true, true, true, true, false, false, true] ?_
        show SJ _ _ _ _ [_, _, _, none, none, none, none] _ _ _ _ _
        exact ih _ (by omega) _ _ _ _ _ _ rfl hr2 (sC_b hb2) hL2
theorem t_Mod_sumOf {g : Bool} {d : Nat} {Q : List xM → Option Value → Prop} {i0 i6 i8 i9 i10 i13 i14 i18 i19 i20 i21 i22 i23 i24 i25 i27 i28 i33 i42 i43 i44 i45 i46 i47 i48 i51 i52 : Int} {x1 x2 x3 x4 x5 x7 x11 x12 x15 x16 x17 x26 x29 x30 x31 x32 x34 x35 x36 x37 x38 x39 x40 x41 x49 x50 : Int → Int} (hC : ∀ k, 0 ≤ k → k < 2800 → 0 ≤ x2 (33 + k) ∧ x2 (33 + k) ≤ 400) (e0 : 0 ≤ i23) (e1 : i23 ≤ 2800) {P : Int → Int → Int → EV} (hP : ME g m_Mod_termOf (d + 12) i0 i6 i8 i9 i10 i13 i14 i18 i19 i20 i21 i23 i25 i27 i28 i33 i42 i43 i44 i45 i46 i47 i48 i51 i52 x1 x2 x3 x4 x5 x7 x11 x12 x15 x16 x17 x26 x31 x32 x34 x35 x36 x37 x38 x39 x40 x41 x49 x50 P) {live v go2 br2 : Int} (hl : live = 0 ∨ live = 1) (hb : i24 = 0 ∨ i24 = 1) (hF : sV (cdA x2 i23) P live i22 i24 = some (v, go2, br2)) (hQ : ∀ y29 y30, Q (MM i0 i6 i8 i9 i10 i13 i14 i18 i19 i20 i21 go2 i23 br2 i25 i27 i28 i33 i42 i43 i44 i45 i46 i47 i48 i51 i52 x1 x2 x3 x4 x5 x7 x11 x12 x15 x16 x17 x26 y29 y30 x31 x32 x34 x35 x36 x37 x38 x39 x40 x41 x49 x50) (some (.long (ll v))))  : CT g m_Mod_sumOf (d + 13) [.ref 0, .int (ii live)] (MM i0 i6 i8 i9 i10 i13 i14 i18 i19 i20 i21 i22 i23 i24 i25 i27 i28 i33 i42 i43 i44 i45 i46 i47 i48 i51 i52 x1 x2 x3 x4 x5 x7 x11 x12 x15 x16 x17 x26 x29 x30 x31 x32 x34 x35 x36 x37 x38 x39 x40 x41 x49 x50) 0 0 Q := by
  refine CT.of (by decide) (Nat.le_of_ble_eq_true rfl) ?_
  show SJ _ _ _ _ [some (.ref 0), some (.int (ii live)), none, none, none, none, none] [] _ _ _ _
  obtain ⟨ww, gg, bb, hP1, hw1, hb1, hL1⟩ := sV_inv hF
  refine j_aload_n d_Mod_sumOf_0 rfl ?_
  refine j_iload_n d_Mod_sumOf_1 rfl ?_
  refine v_call1 d_Mod_sumOf_2 c_Mod_262 rfl ⟨_, rfl, rfl⟩ (Nat.le_of_ble_eq_true rfl) (hP live i22 i24 _ _ _ _ _ _ hP1 hl hb (fun y29 y30 => ?_))
  refine j_lstore_n d_Mod_sumOf_5 (by decide) ?_
  show SJ _ _ _ _ [_, _, _, _, _, _, _] _ _ _ _ _
  exact lp_sumOf hC e0 e1 hP hl hQ _ 400 _ _ _ _ _ rfl hw1 hb1 hL1
theorem sumsOK {g : Bool} {d : Nat} {i0 i6 i8 i9 i10 i13 i14 i18 i19 i20 i21 i23 i25 i27 i28 i33 i42 i43 i44 i45 i46 i47 i48 i51 i52 : Int} {x1 x2 x3 x4 x5 x7 x11 x12 x15 x16 x17 x26 x31 x32 x34 x35 x36 x37 x38 x39 x40 x41 x49 x50 : Int → Int} (hn0 : 0 ≤ x2 0) (hn1 : x2 0 ≤ 20) (hs : ∀ j, 0 ≤ j → j < x2 0 → 0 ≤ x2 (1 + j) ∧ x2 (1 + j) ≤ 11) (hC : ∀ k, 0 ≤ k → k < 2800 → 0 ≤ x2 (33 + k) ∧ x2 (33 + k) ≤ 400) (e0 : 0 ≤ i23) (e1 : i23 ≤ 2800) (hio : i25 = 0 ∨ i25 = 1) : ∀ m : Nat, ME g m_Mod_sumOf (d + 3 * m + 10) i0 i6 i8 i9 i10 i13 i14 i18 i19 i20 i21 i23 i25 i27 i28 i33 i42 i43 i44 i45 i46 i47 i48 i51 i52 x1 x2 x3 x4 x5 x7 x11 x12 x15 x16 x17 x26 x31 x32 x34 x35 x36 x37 x38 x39 x40 x41 x49 x50 (sE (cdA x2 i23) (vlA x2) (wvM i25 x26 x2 i27 i28) i25 m)
  | 0 => fun _ _ _ _ _ _ _ _ _ hF => by cases hF
  | m + 1 => by
    have hS : ME g m_Mod_sumOf (d + 3 * m + 10) i0 i6 i8 i9 i10 i13 i14 i18 i19 i20 i21 i23 i25 i27 i28 i33 i42 i43 i44 i45 i46 i47 i48 i51 i52 x1 x2 x3 x4 x5 x7 x11 x12 x15 x16 x17 x26 x31 x32 x34 x35 x36 x37 x38 x39 x40 x41 x49 x50 (sE (cdA x2 i23) (vlA x2) (wvM i25 x26 x2 i27 i28) i25 m) := sumsOK (g := g) (d := d) hn0 hn1 hs hC e0 e1 hio m
    have hP : ME g m_Mod_partOf (d + 3 * m + 11) i0 i6 i8 i9 i10 i13 i14 i18 i19 i20 i21 i23 i25 i27 i28 i33 i42 i43 i44 i45 i46 i47 i48 i51 i52 x1 x2 x3 x4 x5 x7 x11 x12 x15 x16 x17 x26 x31 x32 x34 x35 x36 x37 x38 x39 x40 x41 x49 x50 (pE (cdA x2 i23) (vlA x2) (wvM i25 x26 x2 i27 i28) i25 (sE (cdA x2 i23) (vlA x2) (wvM i25 x26 x2 i27 i28) i25 m)) := by
      rcases hio with rfl | rfl
      · exact fun live go br v go2 br2 z29 z30 Q hF hl hb hQ => t_Mod_partOf0 hn0 hn1 hs hC e0 e1 hS hF hl hb hQ
      · exact fun live go br v go2 br2 z29 z30 Q hF hl hb hQ => t_Mod_partOf1 hn0 hn1 hs hC e0 e1 hS hF hl hb hQ
    have hT : ME g m_Mod_termOf (d + 3 * m + 12) i0 i6 i8 i9 i10 i13 i14 i18 i19 i20 i21 i23 i25 i27 i28 i33 i42 i43 i44 i45 i46 i47 i48 i51 i52 x1 x2 x3 x4 x5 x7 x11 x12 x15 x16 x17 x26 x31 x32 x34 x35 x36 x37 x38 x39 x40 x41 x49 x50 (tE (cdA x2 i23) (pE (cdA x2 i23) (vlA x2) (wvM i25 x26 x2 i27 i28) i25 (sE (cdA x2 i23) (vlA x2) (wvM i25 x26 x2 i27 i28) i25 m))) := fun live go br v go2 br2 z29 z30 Q hF hl hb hQ => t_Mod_termOf hC e0 e1 hP hl hb hF hQ
    have hU : ME g m_Mod_sumOf (d + 3 * m + 13) i0 i6 i8 i9 i10 i13 i14 i18 i19 i20 i21 i23 i25 i27 i28 i33 i42 i43 i44 i45 i46 i47 i48 i51 i52 x1 x2 x3 x4 x5 x7 x11 x12 x15 x16 x17 x26 x31 x32 x34 x35 x36 x37 x38 x39 x40 x41 x49 x50 (sE (cdA x2 i23) (vlA x2) (wvM i25 x26 x2 i27 i28) i25 (m + 1)) := fun live go br v go2 br2 z29 z30 Q hF hl hb hQ => t_Mod_sumOf hC e0 e1 hT hl hb hF hQ
    rw [show d + 3 * (m + 1) + 10 = d + 3 * m + 13 by omega]
    exact hU
