theorem sj_spS {g : Bool} {d : Nat} {Q : List xM → Option Value → Prop} {i0 i6 i8 i9 i10 i13 i14 i18 i19 i20 i21 i22 i23 i24 i25 i27 i28 i33 i42 i43 i44 i45 i46 i47 i48 i51 i52 : Int} {x1 x2 x3 x4 x5 x7 x11 x12 x15 x16 x17 x26 x29 x30 x31 x32 x34 x35 x36 x37 x38 x39 x40 x41 x49 x50 : Int → Int} (ht : ∀ j, 0 ≤ j → j < 400 → -128 ≤ x11 j ∧ x11 j ≤ 127) (hw7 : ∀ j, 0 ≤ j → j < 137 → x7 j = ofL TA j) {size k : Int} (s0 : 0 ≤ size) (s1 : size ≤ 400) (k0 : 0 ≤ k) (k1 : k < size) (n0 : 0 ≤ i18) (n1 : i18 ≤ 399) (hbS : isS (x11 k)) (hkk : SJ g m_Mod_splits (d + 1) 7 [some (.ref 0), some (.int (ii size)), some (.int (ii (enT x11 size k))), none, none, none] [] (MM i0 i6 i8 i9 i10 i13 i14 (i18 + 1) i19 i20 i21 i22 i23 i24 i25 i27 i28 i33 i42 i43 i44 i45 i46 i47 i48 i51 i52 x1 x2 x3 x4 x5 x7 x11 x12 (up x15 i18 (cdT x11 size k)) (up x16 i18 (vlT x11 size k)) (up x17 i18 k) x26 x29 x30 x31 x32 x34 x35 x36 x37 x38 x39 x40 x41 x49 x50) 0 0 Q) : SJ g m_Mod_splits (d + 1) 100 [some (.ref 0), some (.int (ii size)), some (.int (ii k)), some (.int (ii (x11 k))), some (.int (ii (enT x11 size k))), none] [] (MM i0 i6 i8 i9 i10 i13 i14 i18 i19 i20 i21 i22 i23 i24 i25 i27 i28 i33 i42 i43 i44 i45 i46 i47 i48 i51 i52 x1 x2 x3 x4 x5 x7 x11 x12 x15 x16 x17 x26 x29 x30 x31 x32 x34 x35 x36 x37 x38 x39 x40 x41 x49 x50) 0 0 Q := by
  have hb_ := ht k k0 (by omega)
  have hen := enT_R (t := x11) k1
  refine j_aload_n d_Mod_splits_100 rfl ?_
  refine mg_placed f_Mod_64 d_Mod_splits_101 ?_
  refine j_aload_n d_Mod_splits_104 rfl ?_
  refine mg_tokens f_Mod_145 d_Mod_splits_105 ?_
  refine j_iload_n d_Mod_splits_108 rfl ?_
  refine ms_placed d_Mod_splits_109 (by omega) (by omega) ?_
  refine j_aload_n d_Mod_splits_110 rfl ?_
  refine mg_value f_Mod_61 d_Mod_splits_111 ?_
  refine j_aload_n d_Mod_splits_114 rfl ?_
  refine mg_tokens f_Mod_145 d_Mod_splits_115 ?_
  refine z_iconst d_Mod_splits_118 ?_
  refine ms_value d_Mod_splits_119 (by omega) (by omega) ?_
  refine j_aload_n d_Mod_splits_120 rfl ?_
  refine mg_code f_Mod_58 d_Mod_splits_121 ?_
  refine j_aload_n d_Mod_splits_124 rfl ?_
  refine mg_tokens f_Mod_145 d_Mod_splits_125 ?_
  refine j_iload_n d_Mod_splits_128 rfl ?_
  refine s_call1 d_Mod_splits_129 c_Mod_148 (Nat.le_of_ble_eq_true rfl) (t_Mod_isSmall (by omega) (fun h129 => ?_) (fun h129 => ?_))
  · refine z_if_eq (t := 145) d_Mod_splits_132 (by decide) (by first | omega | exact hw _ | exact hx _ _ | assumption) (fun h => absurd h (by decide)) (fun _ => ?_)
    refine j_aload_n d_Mod_splits_135 rfl ?_
    refine j_iload_n d_Mod_splits_136 rfl ?_
    refine j_iload d_Mod_splits_137 rfl ?_
    refine v_call2 d_Mod_splits_139 c_Mod_154 rfl ⟨_, rfl, rfl⟩ (Nat.le_of_ble_eq_true rfl) (t_Mod_wordOf ht hw7 (by omega) (by omega) (by omega) ?_)
    refine j_goto (t := 165) d_Mod_splits_142 (by decide) ?_
    rw [show fnd (isW x11 k (enT x11 size k)) 0 1 WA = cdT x11 size k by unfold cdT; rw [if_pos hbS]]
    refine ms_code d_Mod_splits_165 (by omega) (by omega) ?_
    refine j_iload_n d_Mod_splits_166 rfl ?_
    refine j_istore d_Mod_splits_167 (by decide) ?_
    show SJ _ _ _ _ [_, _, _, _, _, _] _ _ _ _ _
    refine j_iload d_Mod_splits_169 rfl ?_
    refine j_iload d_Mod_splits_171 rfl ?_
    refine z_icmp_ge (t := 247) d_Mod_splits_173 (by decide) (by first | omega | exact hw _ | exact hx _ _ | assumption) (by first | omega | exact hw _ | exact hx _ _ | assumption) (fun h173 => ?_) (fun h173 => ?_)
    · rw [show up x16 i18 0 = up x16 i18 (vlT x11 size k) by unfold vlT; rw [if_neg (by omega)]]
      refine j_aload_n d_Mod_splits_247 rfl ?_
      refine j_dup d_Mod_splits_248 rfl ?_
      refine mg_tokens f_Mod_145 d_Mod_splits_249 ?_
      refine z_iconst d_Mod_splits_252 ?_
      refine z_iadd d_Mod_splits_253 ?_
      refine mp_tokens f_Mod_145 d_Mod_splits_254 ?_
      refine j_iload d_Mod_splits_257 rfl ?_
      refine j_istore_n d_Mod_splits_259 (by decide) ?_
      show SJ _ _ _ _ [_, _, _, _, _, _] _ _ _ _ _
      refine j_goto (t := 7) d_Mod_splits_260 (by decide) ?_
      refine SJ.mask [true, true, true, false, false, false] ?_
      show SJ _ _ _ _ [_, _, _, none, none, none] _ _ _ _ _
      exact hkk
    · refine j_iload_n d_Mod_splits_176 rfl ?_
      refine s_call1 d_Mod_splits_177 c_Mod_151 (Nat.le_of_ble_eq_true rfl) (t_Mod_isDigit (by omega) (fun h177 => ?_) (fun h177 => ?_))
      · refine z_if_eq (t := 247) d_Mod_splits_180 (by decide) (by first | omega | exact hw _ | exact hx _ _ | assumption) (fun h => absurd h (by decide)) (fun _ => ?_)
        exfalso
        omega
      · refine z_if_eq (t := 247) d_Mod_splits_180 (by decide) (by first | omega | exact hw _ | exact hx _ _ | assumption) (fun _ => ?_) (fun h => absurd h (by decide))
        rw [show up x16 i18 0 = up x16 i18 (vlT x11 size k) by unfold vlT; rw [if_neg (by omega)]]
        refine j_aload_n d_Mod_splits_247 rfl ?_
        refine j_dup d_Mod_splits_248 rfl ?_
        refine mg_tokens f_Mod_145 d_Mod_splits_249 ?_
        refine z_iconst d_Mod_splits_252 ?_
        refine z_iadd d_Mod_splits_253 ?_
        refine mp_tokens f_Mod_145 d_Mod_splits_254 ?_
        refine j_iload d_Mod_splits_257 rfl ?_
        refine j_istore_n d_Mod_splits_259 (by decide) ?_
        show SJ _ _ _ _ [_, _, _, _, _, _] _ _ _ _ _
        refine j_goto (t := 7) d_Mod_splits_260 (by decide) ?_
        refine SJ.mask [true, true, true, false, false, false] ?_
        show SJ _ _ _ _ [_, _, _, none, none, none] _ _ _ _ _
        exact hkk
  · refine z_if_eq (t := 145) d_Mod_splits_132 (by decide) (by first | omega | exact hw _ | exact hx _ _ | assumption) (fun _ => ?_) (fun h => absurd h (by decide))
    exfalso
    omega
theorem sj_spD {g : Bool} {d : Nat} {Q : List xM → Option Value → Prop} {i0 i6 i8 i9 i10 i13 i14 i18 i19 i20 i21 i22 i23 i24 i25 i27 i28 i33 i42 i43 i44 i45 i46 i47 i48 i51 i52 : Int} {x1 x2 x3 x4 x5 x7 x11 x12 x15 x16 x17 x26 x29 x30 x31 x32 x34 x35 x36 x37 x38 x39 x40 x41 x49 x50 : Int → Int} (ht : ∀ j, 0 ≤ j → j < 400 → -128 ≤ x11 j ∧ x11 j ≤ 127) (hw7 : ∀ j, 0 ≤ j → j < 137 → x7 j = ofL TA j) {size k : Int} (s0 : 0 ≤ size) (s1 : size ≤ 400) (k0 : 0 ≤ k) (k1 : k < size) (n0 : 0 ≤ i18) (n1 : i18 ≤ 399) (hbD : isDg (x11 k)) (hkk : SJ g m_Mod_splits (d + 1) 7 [some (.ref 0), some (.int (ii size)), some (.int (ii (enT x11 size k))), none, none, none] [] (MM i0 i6 i8 i9 i10 i13 i14 (i18 + 1) i19 i20 i21 i22 i23 i24 i25 i27 i28 i33 i42 i43 i44 i45 i46 i47 i48 i51 i52 x1 x2 x3 x4 x5 x7 x11 x12 (up x15 i18 (cdT x11 size k)) (up x16 i18 (vlT x11 size k)) (up x17 i18 k) x26 x29 x30 x31 x32 x34 x35 x36 x37 x38 x39 x40 x41 x49 x50) 0 0 Q) : SJ g m_Mod_splits (d + 1) 100 [some (.ref 0), some (.int (ii size)), some (.int (ii k)), some (.int (ii (x11 k))), some (.int (ii (enT x11 size k))), none] [] (MM i0 i6 i8 i9 i10 i13 i14 i18 i19 i20 i21 i22 i23 i24 i25 i27 i28 i33 i42 i43 i44 i45 i46 i47 i48 i51 i52 x1 x2 x3 x4 x5 x7 x11 x12 x15 x16 x17 x26 x29 x30 x31 x32 x34 x35 x36 x37 x38 x39 x40 x41 x49 x50) 0 0 Q := by
  have hb_ := ht k k0 (by omega)
  have hen := enT_R (t := x11) k1
  refine j_aload_n d_Mod_splits_100 rfl ?_
  refine mg_placed f_Mod_64 d_Mod_splits_101 ?_
  refine j_aload_n d_Mod_splits_104 rfl ?_
  refine mg_tokens f_Mod_145 d_Mod_splits_105 ?_
  refine j_iload_n d_Mod_splits_108 rfl ?_
  refine ms_placed d_Mod_splits_109 (by omega) (by omega) ?_
  refine j_aload_n d_Mod_splits_110 rfl ?_
  refine mg_value f_Mod_61 d_Mod_splits_111 ?_
  refine j_aload_n d_Mod_splits_114 rfl ?_
  refine mg_tokens f_Mod_145 d_Mod_splits_115 ?_
  refine z_iconst d_Mod_splits_118 ?_
  refine ms_value d_Mod_splits_119 (by omega) (by omega) ?_
  refine j_aload_n d_Mod_splits_120 rfl ?_
  refine mg_code f_Mod_58 d_Mod_splits_121 ?_
  refine j_aload_n d_Mod_splits_124 rfl ?_
  refine mg_tokens f_Mod_145 d_Mod_splits_125 ?_
  refine j_iload_n d_Mod_splits_128 rfl ?_
  refine s_call1 d_Mod_splits_129 c_Mod_148 (Nat.le_of_ble_eq_true rfl) (t_Mod_isSmall (by omega) (fun h129 => ?_) (fun h129 => ?_))
  · refine z_if_eq (t := 145) d_Mod_splits_132 (by decide) (by first | omega | exact hw _ | exact hx _ _ | assumption) (fun h => absurd h (by decide)) (fun _ => ?_)
    exfalso
    omega
  · refine z_if_eq (t := 145) d_Mod_splits_132 (by decide) (by first | omega | exact hw _ | exact hx _ _ | assumption) (fun _ => ?_) (fun h => absurd h (by decide))
    refine j_iload_n d_Mod_splits_145 rfl ?_
    refine s_call1 d_Mod_splits_146 c_Mod_151 (Nat.le_of_ble_eq_true rfl) (t_Mod_isDigit (by omega) (fun h146 => ?_) (fun h146 => ?_))
    · refine z_if_eq (t := 157) d_Mod_splits_149 (by decide) (by first | omega | exact hw _ | exact hx _ _ | assumption) (fun h => absurd h (by decide)) (fun _ => ?_)
      refine z_bipush d_Mod_splits_152 (by decide) ?_
      refine j_goto (t := 165) d_Mod_splits_154 (by decide) ?_
      rw [show (50 : Int) = cdT x11 size k by unfold cdT; rw [if_neg (by omega), if_pos hbD]]
      refine ms_code d_Mod_splits_165 (by omega) (by omega) ?_
      refine j_iload_n d_Mod_splits_166 rfl ?_
      refine j_istore d_Mod_splits_167 (by decide) ?_
      show SJ _ _ _ _ [_, _, _, _, _, _] _ _ _ _ _
      refine lp_splitN (V := x16) ht (by omega) (by omega) s0 s1 k0 (by omega) hbD (enT_dg (size := size) hbD) (R := vlT x11 size k) ?_ _ k 0 rfl (by omega) (by omega) (by omega) (by omega) (by unfold vlT; rw [if_pos hbD])
      refine j_aload_n d_Mod_splits_247 rfl ?_
      refine j_dup d_Mod_splits_248 rfl ?_
      refine mg_tokens f_Mod_145 d_Mod_splits_249 ?_
      refine z_iconst d_Mod_splits_252 ?_
      refine z_iadd d_Mod_splits_253 ?_
      refine mp_tokens f_Mod_145 d_Mod_splits_254 ?_
      refine j_iload d_Mod_splits_257 rfl ?_
      refine j_istore_n d_Mod_splits_259 (by decide) ?_
      show SJ _ _ _ _ [_, _, _, _, _, _] _ _ _ _ _
      refine j_goto (t := 7) d_Mod_splits_260 (by decide) ?_
      refine SJ.mask [true, true, true, false, false, false] ?_
      show SJ _ _ _ _ [_, _, _, none, none, none] _ _ _ _ _
      exact hkk
    · refine z_if_eq (t := 157) d_Mod_splits_149 (by decide) (by first | omega | exact hw _ | exact hx _ _ | assumption) (fun _ => ?_) (fun h => absurd h (by decide))
      exfalso
      omega
theorem sj_spO {g : Bool} {d : Nat} {Q : List xM → Option Value → Prop} {i0 i6 i8 i9 i10 i13 i14 i18 i19 i20 i21 i22 i23 i24 i25 i27 i28 i33 i42 i43 i44 i45 i46 i47 i48 i51 i52 : Int} {x1 x2 x3 x4 x5 x7 x11 x12 x15 x16 x17 x26 x29 x30 x31 x32 x34 x35 x36 x37 x38 x39 x40 x41 x49 x50 : Int → Int} (ht : ∀ j, 0 ≤ j → j < 400 → -128 ≤ x11 j ∧ x11 j ≤ 127) (hw7 : ∀ j, 0 ≤ j → j < 137 → x7 j = ofL TA j) {size k : Int} (s0 : 0 ≤ size) (s1 : size ≤ 400) (k0 : 0 ≤ k) (k1 : k < size) (n0 : 0 ≤ i18) (n1 : i18 ≤ 399) (hbS : ¬ isS (x11 k)) (hbD : ¬ isDg (x11 k)) (hkk : SJ g m_Mod_splits (d + 1) 7 [some (.ref 0), some (.int (ii size)), some (.int (ii (enT x11 size k))), none, none, none] [] (MM i0 i6 i8 i9 i10 i13 i14 (i18 + 1) i19 i20 i21 i22 i23 i24 i25 i27 i28 i33 i42 i43 i44 i45 i46 i47 i48 i51 i52 x1 x2 x3 x4 x5 x7 x11 x12 (up x15 i18 (cdT x11 size k)) (up x16 i18 (vlT x11 size k)) (up x17 i18 k) x26 x29 x30 x31 x32 x34 x35 x36 x37 x38 x39 x40 x41 x49 x50) 0 0 Q) : SJ g m_Mod_splits (d + 1) 100 [some (.ref 0), some (.int (ii size)), some (.int (ii k)), some (.int (ii (x11 k))), some (.int (ii (enT x11 size k))), none] [] (MM i0 i6 i8 i9 i10 i13 i14 i18 i19 i20 i21 i22 i23 i24 i25 i27 i28 i33 i42 i43 i44 i45 i46 i47 i48 i51 i52 x1 x2 x3 x4 x5 x7 x11 x12 x15 x16 x17 x26 x29 x30 x31 x32 x34 x35 x36 x37 x38 x39 x40 x41 x49 x50) 0 0 Q := by
  have hb_ := ht k k0 (by omega)
  have hen := enT_R (t := x11) k1
  refine j_aload_n d_Mod_splits_100 rfl ?_
  refine mg_placed f_Mod_64 d_Mod_splits_101 ?_
  refine j_aload_n d_Mod_splits_104 rfl ?_
  refine mg_tokens f_Mod_145 d_Mod_splits_105 ?_
  refine j_iload_n d_Mod_splits_108 rfl ?_
  refine ms_placed d_Mod_splits_109 (by omega) (by omega) ?_
  refine j_aload_n d_Mod_splits_110 rfl ?_
  refine mg_value f_Mod_61 d_Mod_splits_111 ?_
  refine j_aload_n d_Mod_splits_114 rfl ?_
  refine mg_tokens f_Mod_145 d_Mod_splits_115 ?_
  refine z_iconst d_Mod_splits_118 ?_
  refine ms_value d_Mod_splits_119 (by omega) (by omega) ?_
  refine j_aload_n d_Mod_splits_120 rfl ?_
  refine mg_code f_Mod_58 d_Mod_splits_121 ?_
  refine j_aload_n d_Mod_splits_124 rfl ?_
  refine mg_tokens f_Mod_145 d_Mod_splits_125 ?_
  refine j_iload_n d_Mod_splits_128 rfl ?_
  refine s_call1 d_Mod_splits_129 c_Mod_148 (Nat.le_of_ble_eq_true rfl) (t_Mod_isSmall (by omega) (fun h129 => ?_) (fun h129 => ?_))
  · refine z_if_eq (t := 145) d_Mod_splits_132 (by decide) (by first | omega | exact hw _ | exact hx _ _ | assumption) (fun h => absurd h (by decide)) (fun _ => ?_)
    exfalso
    omega
  · refine z_if_eq (t := 145) d_Mod_splits_132 (by decide) (by first | omega | exact hw _ | exact hx _ _ | assumption) (fun _ => ?_) (fun h => absurd h (by decide))
    refine j_iload_n d_Mod_splits_145 rfl ?_
    refine s_call1 d_Mod_splits_146 c_Mod_151 (Nat.le_of_ble_eq_true rfl) (t_Mod_isDigit (by omega) (fun h146 => ?_) (fun h146 => ?_))
    · refine z_if_eq (t := 157) d_Mod_splits_149 (by decide) (by first | omega | exact hw _ | exact hx _ _ | assumption) (fun h => absurd h (by decide)) (fun _ => ?_)
      exfalso
      omega
    · refine z_if_eq (t := 157) d_Mod_splits_149 (by decide) (by first | omega | exact hw _ | exact hx _ _ | assumption) (fun _ => ?_) (fun h => absurd h (by decide))
      refine z_bipush d_Mod_splits_157 (by decide) ?_
      refine j_iload_n d_Mod_splits_159 rfl ?_
      refine z_sipush d_Mod_splits_160 (by decide) ?_
      refine j_iand d_Mod_splits_163 ?_
      rw [and255 (by omega) (by omega)]
      refine z_iadd d_Mod_splits_164 ?_
      rw [show 100 + ub (x11 k) = cdT x11 size k by unfold cdT; rw [if_neg hbS, if_neg hbD]]
      refine ms_code d_Mod_splits_165 (by omega) (by omega) ?_
      refine j_iload_n d_Mod_splits_166 rfl ?_
      refine j_istore d_Mod_splits_167 (by decide) ?_
      show SJ _ _ _ _ [_, _, _, _, _, _] _ _ _ _ _
      refine j_iload d_Mod_splits_169 rfl ?_
      refine j_iload d_Mod_splits_171 rfl ?_
      refine z_icmp_ge (t := 247) d_Mod_splits_173 (by decide) (by first | omega | exact hw _ | exact hx _ _ | assumption) (by first | omega | exact hw _ | exact hx _ _ | assumption) (fun h173 => ?_) (fun h173 => ?_)
      · rw [show up x16 i18 0 = up x16 i18 (vlT x11 size k) by unfold vlT; rw [if_neg (by omega)]]
        refine j_aload_n d_Mod_splits_247 rfl ?_
        refine j_dup d_Mod_splits_248 rfl ?_
        refine mg_tokens f_Mod_145 d_Mod_splits_249 ?_
        refine z_iconst d_Mod_splits_252 ?_
        refine z_iadd d_Mod_splits_253 ?_
        refine mp_tokens f_Mod_145 d_Mod_splits_254 ?_
        refine j_iload d_Mod_splits_257 rfl ?_
        refine j_istore_n d_Mod_splits_259 (by decide) ?_
        show SJ _ _ _ _ [_, _, _, _, _, _] _ _ _ _ _
        refine j_goto (t := 7) d_Mod_splits_260 (by decide) ?_
        refine SJ.mask [true, true, true, false, false, false] ?_
        show SJ _ _ _ _ [_, _, _, none, none, none] _ _ _ _ _
        exact hkk
      · refine j_iload_n d_Mod_splits_176 rfl ?_
        refine s_call1 d_Mod_splits_177 c_Mod_151 (Nat.le_of_ble_eq_true rfl) (t_Mod_isDigit (by omega) (fun h177 => ?_) (fun h177 => ?_))
        · refine z_if_eq (t := 247) d_Mod_splits_180 (by decide) (by first | omega | exact hw _ | exact hx _ _ | assumption) (fun h => absurd h (by decide)) (fun _ => ?_)
          exfalso
          omega
        · refine z_if_eq (t := 247) d_Mod_splits_180 (by decide) (by first | omega | exact hw _ | exact hx _ _ | assumption) (fun _ => ?_) (fun h => absurd h (by decide))
          rw [show up x16 i18 0 = up x16 i18 (vlT x11 size k) by unfold vlT; rw [if_neg (by omega)]]
          refine j_aload_n d_Mod_splits_247 rfl ?_
          refine j_dup d_Mod_splits_248 rfl ?_
          refine mg_tokens f_Mod_145 d_Mod_splits_249 ?_
          refine z_iconst d_Mod_splits_252 ?_
          refine z_iadd d_Mod_splits_253 ?_
          refine mp_tokens f_Mod_145 d_Mod_splits_254 ?_
          refine j_iload d_Mod_splits_257 rfl ?_
          refine j_istore_n d_Mod_splits_259 (by decide) ?_
          show SJ _ _ _ _ [_, _, _, _, _, _] _ _ _ _ _
          refine j_goto (t := 7) d_Mod_splits_260 (by decide) ?_
          refine SJ.mask [true, true, true, false, false, false] ?_
          show SJ _ _ _ _ [_, _, _, none, none, none] _ _ _ _ _
          exact hkk
theorem sj_sp68 {g : Bool} {d : Nat} {Q : List xM → Option Value → Prop} {i0 i6 i8 i9 i10 i13 i14 i18 i19 i20 i21 i22 i23 i24 i25 i27 i28 i33 i42 i43 i44 i45 i46 i47 i48 i51 i52 : Int} {x1 x2 x3 x4 x5 x7 x11 x12 x15 x16 x17 x26 x29 x30 x31 x32 x34 x35 x36 x37 x38 x39 x40 x41 x49 x50 : Int → Int} (ht : ∀ j, 0 ≤ j → j < 400 → -128 ≤ x11 j ∧ x11 j ≤ 127) (hw7 : ∀ j, 0 ≤ j → j < 137 → x7 j = ofL TA j) {size k : Int} (s0 : 0 ≤ size) (s1 : size ≤ 400) (k0 : 0 ≤ k) (k1 : k < size) (n0 : 0 ≤ i18) (n1 : i18 ≤ 399) (hbS : isS (x11 k)) (hkk : SJ g m_Mod_splits (d + 1) 7 [some (.ref 0), some (.int (ii size)), some (.int (ii (enT x11 size k))), none, none, none] [] (MM i0 i6 i8 i9 i10 i13 i14 (i18 + 1) i19 i20 i21 i22 i23 i24 i25 i27 i28 i33 i42 i43 i44 i45 i46 i47 i48 i51 i52 x1 x2 x3 x4 x5 x7 x11 x12 (up x15 i18 (cdT x11 size k)) (up x16 i18 (vlT x11 size k)) (up x17 i18 k) x26 x29 x30 x31 x32 x34 x35 x36 x37 x38 x39 x40 x41 x49 x50) 0 0 Q) : SJ g m_Mod_splits (d + 1) 68 [some (.ref 0), some (.int (ii size)), some (.int (ii k)), some (.int (ii (x11 k))), some (.int (ii (enT x11 size k))), none] [] (MM i0 i6 i8 i9 i10 i13 i14 i18 i19 i20 i21 i22 i23 i24 i25 i27 i28 i33 i42 i43 i44 i45 i46 i47 i48 i51 i52 x1 x2 x3 x4 x5 x7 x11 x12 x15 x16 x17 x26 x29 x30 x31 x32 x34 x35 x36 x37 x38 x39 x40 x41 x49 x50) 0 0 Q := by
  have hb_ := ht k k0 (by omega)
  refine j_iload_n d_Mod_splits_68 rfl ?_
  refine s_call1 d_Mod_splits_69 c_Mod_151 (Nat.le_of_ble_eq_true rfl) (t_Mod_isDigit (by omega) (fun h69 => ?_) (fun h69 => ?_))
  · refine z_if_eq (t := 100) d_Mod_splits_72 (by decide) (by first | omega | exact hw _ | exact hx _ _ | assumption) (fun h => absurd h (by decide)) (fun _ => ?_)
    exfalso
    omega
  · refine z_if_eq (t := 100) d_Mod_splits_72 (by decide) (by first | omega | exact hw _ | exact hx _ _ | assumption) (fun _ => ?_) (fun h => absurd h (by decide))
    exact sj_spS ht hw7 s0 s1 k0 k1 n0 n1 hbS hkk
theorem lp_splits {g : Bool} {d : Nat} {Q : List xM → Option Value → Prop} {i0 i6 i8 i9 i10 i13 i14 i19 i20 i21 i22 i23 i24 i25 i27 i28 i33 i42 i43 i44 i45 i46 i47 i48 i51 i52 : Int} {x1 x2 x3 x4 x5 x7 x11 x12 x26 x29 x30 x31 x32 x34 x35 x36 x37 x38 x39 x40 x41 x49 x50 : Int → Int} (ht : ∀ j, 0 ≤ j → j < 400 → -128 ≤ x11 j ∧ x11 j ≤ 127) (hw7 : ∀ j, 0 ≤ j → j < 137 → x7 j = ofL TA j) {size : Int} (s0 : 0 ≤ size) (s1 : size ≤ 400) {R : TKS} (hQ : Q (MM i0 i6 i8 i9 i10 i13 i14 R.1 i19 i20 i21 i22 i23 i24 i25 i27 i28 i33 i42 i43 i44 i45 i46 i47 i48 i51 i52 x1 x2 x3 x4 x5 x7 x11 x12 (up R.2.1 R.1 0) (up R.2.2.1 R.1 0) (up R.2.2.2 R.1 size) x26 x29 x30 x31 x32 x34 x35 x36 x37 x38 x39 x40 x41 x49 x50) none) : ∀ (nn : Nat) (m : Nat) (k : Int) (N : Int) (C : Int → Int) (V : Int → Int) (Pl : Int → Int), (size - k).toNat = nn → 0 ≤ k → k ≤ size → 0 ≤ N → N ≤ k → size - k ≤ (m : Int) → m ≤ 400 → spT x11 size m k (N, C, V, Pl) = R → SJ g m_Mod_splits (d + 1) 7 [some (.ref 0), some (.int (ii size)), some (.int (ii k)), none, none, none] [] (MM i0 i6 i8 i9 i10 i13 i14 N i19 i20 i21 i22 i23 i24 i25 i27 i28 i33 i42 i43 i44 i45 i46 i47 i48 i51 i52 x1 x2 x3 x4 x5 x7 x11 x12 C V Pl x26 x29 x30 x31 x32 x34 x35 x36 x37 x38 x39 x40 x41 x49 x50) 0 0 Q := by
  intro nn
  induction nn using Nat.strongRecOn with
  | ind nn ih =>
  intro m k N C V Pl hn k0 k1 n0 n1 hm hmm hR
  refine j_iload_n d_Mod_splits_7 rfl ?_
  refine j_iload_n d_Mod_splits_8 rfl ?_
  refine z_icmp_ge (t := 263) d_Mod_splits_9 (by decide) (by first | omega | exact hw _ | exact hx _ _ | assumption) (by first | omega | exact hw _ | exact hx _ _ | assumption) (fun h9 => ?_) (fun h9 => ?_)
  · have hR2 : ((N, C, V, Pl) : TKS) = R := by
      rw [← hR]
      cases m with
      | zero => rfl
      | succ m => simp only [spT]; rw [if_pos (by omega)]
    subst hR2
    refine j_aload_n d_Mod_splits_263 rfl ?_
    refine mg_placed f_Mod_64 d_Mod_splits_264 ?_
    refine j_aload_n d_Mod_splits_267 rfl ?_
    refine mg_tokens f_Mod_145 d_Mod_splits_268 ?_
    refine j_iload_n d_Mod_splits_271 rfl ?_
    refine ms_placed d_Mod_splits_272 (by omega) (by omega) ?_
    refine j_aload_n d_Mod_splits_273 rfl ?_
    refine mg_code f_Mod_58 d_Mod_splits_274 ?_
    refine j_aload_n d_Mod_splits_277 rfl ?_
    refine mg_tokens f_Mod_145 d_Mod_splits_278 ?_
    refine z_iconst d_Mod_splits_281 ?_
    refine ms_code d_Mod_splits_282 (by omega) (by omega) ?_
    refine j_aload_n d_Mod_splits_283 rfl ?_
    refine mg_value f_Mod_61 d_Mod_splits_284 ?_
    refine j_aload_n d_Mod_splits_287 rfl ?_
    refine mg_tokens f_Mod_145 d_Mod_splits_288 ?_
    refine z_iconst d_Mod_splits_291 ?_
    refine ms_value d_Mod_splits_292 (by omega) (by omega) ?_
    exact j_return rfl d_Mod_splits_293 hQ
  · have hb_ := ht k k0 (by omega)
    obtain ⟨m, rfl⟩ : ∃ j, m = j + 1 := ⟨m - 1, by omega⟩
    simp only [spT] at hR
    rw [if_neg (by omega)] at hR
    refine j_aload_n d_Mod_splits_12 rfl ?_
    refine mg_tape f_Mod_49 d_Mod_splits_13 ?_
    refine j_iload_n d_Mod_splits_16 rfl ?_
    refine ml_tape d_Mod_splits_17 (by omega) (by omega) ?_
    refine j_istore_n d_Mod_splits_18 (by decide) ?_
    show SJ _ _ _ _ [_, _, _, _, _, _] _ _ _ _ _
    refine j_iload_n d_Mod_splits_19 rfl ?_
    refine z_bipush d_Mod_splits_20 (by decide) ?_
    refine z_icmp_ne (t := 31) d_Mod_splits_22 (by decide) (by first | omega | exact hw _ | exact hx _ _ | assumption) (by first | omega | exact hw _ | exact hx _ _ | assumption) (fun h22 => ?_) (fun h22 => ?_)
    · rw [if_neg (by omega)] at hR
      have hen := enT_R (t := x11) (size := size) (k := k) (by omega)
      refine j_iload_n d_Mod_splits_31 rfl ?_
      refine z_iconst d_Mod_splits_32 ?_
      refine z_iadd d_Mod_splits_33 ?_
      refine j_istore d_Mod_splits_34 (by decide) ?_
      show SJ _ _ _ _ [_, _, _, _, _, _] _ _ _ _ _
      refine j_iload_n d_Mod_splits_36 rfl ?_
      refine s_call1 d_Mod_splits_37 c_Mod_148 (Nat.le_of_ble_eq_true rfl) (t_Mod_isSmall (by omega) (fun h37 => ?_) (fun h37 => ?_))
      · refine z_if_eq (t := 68) d_Mod_splits_40 (by decide) (by first | omega | exact hw _ | exact hx _ _ | assumption) (fun h => absurd h (by decide)) (fun _ => ?_)
        have eS : enT x11 size k = rnT x11 isS size (size - (k + 1)).toNat (k + 1) := by unfold enT; rw [if_pos h37]
        refine lp_splitS ht s0 s1 k0 (E := enT x11 size k) ?_ _ (size - (k + 1)).toNat (k + 1) rfl (by omega) (by omega) (by omega) eS.symm
        exact sj_sp68 ht hw7 s0 s1 k0 (by omega) n0 (by omega) h37 (ih _ (by omega) m (enT x11 size k) (N + 1) _ _ _ rfl (by omega) (by omega) (by omega) (by omega) (by omega) (by omega) hR)
      · refine z_if_eq (t := 68) d_Mod_splits_40 (by decide) (by first | omega | exact hw _ | exact hx _ _ | assumption) (fun _ => ?_) (fun h => absurd h (by decide))
        refine j_iload_n d_Mod_splits_68 rfl ?_
        refine s_call1 d_Mod_splits_69 c_Mod_151 (Nat.le_of_ble_eq_true rfl) (t_Mod_isDigit (by omega) (fun h69 => ?_) (fun h69 => ?_))
        · refine z_if_eq (t := 100) d_Mod_splits_72 (by decide) (by first | omega | exact hw _ | exact hx _ _ | assumption) (fun h => absurd h (by decide)) (fun _ => ?_)
          have eS : enT x11 size k = rnT x11 isDg size (size - (k + 1)).toNat (k + 1) := by unfold enT; rw [if_neg h37, if_pos h69]
          refine lp_splitD ht s0 s1 k0 (E := enT x11 size k) ?_ _ (size - (k + 1)).toNat (k + 1) rfl (by omega) (by omega) (by omega) eS.symm
          exact sj_spD ht hw7 s0 s1 k0 (by omega) n0 (by omega) h69 (ih _ (by omega) m (enT x11 size k) (N + 1) _ _ _ rfl (by omega) (by omega) (by omega) (by omega) (by omega) (by omega) hR)
        · refine z_if_eq (t := 100) d_Mod_splits_72 (by decide) (by first | omega | exact hw _ | exact hx _ _ | assumption) (fun _ => ?_) (fun h => absurd h (by decide))
          have eS : k + 1 = enT x11 size k := by unfold enT; rw [if_neg h37, if_neg h69]
          rw [eS]
          exact sj_spO ht hw7 s0 s1 k0 (by omega) n0 (by omega) h37 h69 (ih _ (by omega) m (enT x11 size k) (N + 1) _ _ _ rfl (by omega) (by omega) (by omega) (by omega) (by omega) (by omega) hR)
    · rw [if_pos (by omega)] at hR
      refine z_iinc d_Mod_splits_25 rfl (by decide) ?_
      show SJ _ _ _ _ [_, _, _, _, _, _] _ _ _ _ _
      refine j_goto (t := 7) d_Mod_splits_28 (by decide) ?_
      refine SJ.mask [true, true, true, false, true, true] ?_
      show SJ _ _ _ _ [_, _, _, none, none, none] _ _ _ _ _
      exact ih _ (by omega) m (k + 1) N C V Pl rfl (by omega) (by omega) n0 (by omega) (by omega) (by omega) hR
theorem tkz_e {t : Int → Int} {size : Int} {q R : TKS} (h : spT t size 400 0 (0, q.2) = R) : tkz t size q = (R.1, up R.2.1 R.1 0, up R.2.2.1 R.1 0, up R.2.2.2 R.1 size) := by
  unfold tkz
  rw [h]
theorem t_Mod_splits {g : Bool} {d : Nat} {Q : List xM → Option Value → Prop} {i0 i6 i8 i9 i10 i13 i14 i18 i19 i20 i21 i22 i23 i24 i25 i27 i28 i33 i42 i43 i44 i45 i46 i47 i48 i51 i52 : Int} {x1 x2 x3 x4 x5 x7 x11 x12 x15 x16 x17 x26 x29 x30 x31 x32 x34 x35 x36 x37 x38 x39 x40 x41 x49 x50 : Int → Int} (ht : ∀ j, 0 ≤ j → j < 400 → -128 ≤ x11 j ∧ x11 j ≤ 127) (hw7 : ∀ j, 0 ≤ j → j < 137 → x7 j = ofL TA j) {size : Int} (s0 : 0 ≤ size) (s1 : size ≤ 400) {K_ : TKS} (hK : tkz x11 size (i18, x15, x16, x17) = K_) (hQ : Q (MM i0 i6 i8 i9 i10 i13 i14 K_.1 i19 i20 i21 i22 i23 i24 i25 i27 i28 i33 i42 i43 i44 i45 i46 i47 i48 i51 i52 x1 x2 x3 x4 x5 x7 x11 x12 K_.2.1 K_.2.2.1 K_.2.2.2 x26 x29 x30 x31 x32 x34 x35 x36 x37 x38 x39 x40 x41 x49 x50) none) : CT g m_Mod_splits (d + 1) [.ref 0, .int (ii size)] (MM i0 i6 i8 i9 i10 i13 i14 i18 i19 i20 i21 i22 i23 i24 i25 i27 i28 i33 i42 i43 i44 i45 i46 i47 i48 i51 i52 x1 x2 x3 x4 x5 x7 x11 x12 x15 x16 x17 x26 x29 x30 x31 x32 x34 x35 x36 x37 x38 x39 x40 x41 x49 x50) 0 0 Q := by
  refine CT.of (by decide) (Nat.le_of_ble_eq_true rfl) ?_
  show SJ _ _ _ _ [some (.ref 0), some (.int (ii size)), none, none, none, none] [] _ _ _ _
  have hsp : ∃ R : TKS, spT x11 size 400 0 (0, x15, x16, x17) = R := ⟨_, rfl⟩
  obtain ⟨R, hRz⟩ := hsp
  rw [tkz_e (q := (i18, x15, x16, x17)) hRz] at hK
  subst hK
  refine j_aload_n d_Mod_splits_0 rfl ?_
  refine z_iconst d_Mod_splits_1 ?_
  refine mp_tokens f_Mod_145 d_Mod_splits_2 ?_
  refine z_iconst d_Mod_splits_5 ?_
  refine j_istore_n d_Mod_splits_6 (by decide) ?_
  show SJ _ _ _ _ [_, _, _, _, _, _] _ _ _ _ _
  exact lp_splits ht hw7 s0 s1 (R := R) hQ _ 400 0 0 x15 x16 x17 rfl (by omega) (by omega) (by omega) (by omega) (by omega) (by omega) hRz
theorem sj_readsB {g : Bool} {d : Nat} {Q : List xM → Option Value → Prop} {i0 i6 i8 i9 i10 i13 i14 i18 i22 i23 i24 i25 i27 i28 i33 i42 i43 i44 i45 i46 i47 i48 i51 i52 : Int} {x1 x2 x3 x4 x5 x7 x11 x12 x15 x16 x17 x26 x29 x30 x31 x32 x34 x35 x36 x37 x38 x39 x40 x41 x49 x50 : Int → Int} {tk lv bq_ : Int} (hbz : 0 ≤ bq_) (hbz2 : bq_ ≤ 400) (hQ : Q (MM i0 i6 i8 i9 i10 i13 bq_ i18 tk lv bq_ i22 i23 i24 i25 i27 i28 i33 i42 i43 i44 i45 i46 i47 i48 i51 i52 x1 x2 x3 x4 x5 x7 x11 x12 x15 x16 x17 x26 x29 x30 x31 x32 x34 x35 x36 x37 x38 x39 x40 x41 x49 x50) (some (.int (ii 0)))) : SJ g m_Mod_reads (d + 36) 34 [some (.ref 0), none] [] (MM i0 i6 i8 i9 i10 i13 i14 i18 tk lv bq_ i22 i23 i24 i25 i27 i28 i33 i42 i43 i44 i45 i46 i47 i48 i51 i52 x1 x2 x3 x4 x5 x7 x11 x12 x15 x16 x17 x26 x29 x30 x31 x32 x34 x35 x36 x37 x38 x39 x40 x41 x49 x50) 0 0 Q := by
  refine j_aload_n d_Mod_reads_34 rfl ?_
  refine z_bipush d_Mod_reads_35 (by decide) ?_
  refine s_call1 d_Mod_reads_37 c_Mod_208 (Nat.le_of_ble_eq_true rfl) (t_Mod_sign ?_)
  refine v_call1 d_Mod_reads_40 c_Mod_169 rfl ⟨_, rfl, rfl⟩ (Nat.le_of_ble_eq_true rfl) (b_Mod_takes0 hbz hbz2 ?_)
  refine z_if_eq (t := 73) d_Mod_reads_43 (by decide) (by first | omega | exact hw _ | exact hx _ _ | assumption) (fun _ => ?_) (fun h => absurd h (by decide))
  refine j_aload_n d_Mod_reads_73 rfl ?_
  refine v_call0 d_Mod_reads_74 c_Mod_162 rfl ⟨_, rfl, rfl⟩ (Nat.le_of_ble_eq_true rfl) (b_Mod_fine hbz hbz2 ?_)
  refine z_if_eq (t := 95) d_Mod_reads_77 (by decide) (by first | omega | exact hw _ | exact hx _ _ | assumption) (fun _ => ?_) (fun h => absurd h (by decide))
  refine j_aload_n d_Mod_reads_95 rfl ?_
  refine j_aload_n d_Mod_reads_96 rfl ?_
  refine mg_bad f_Mod_159 d_Mod_reads_97 ?_
  refine mp_fault f_Mod_55 d_Mod_reads_100 ?_
  refine j_aload_n d_Mod_reads_103 rfl ?_
  refine v_call0 d_Mod_reads_104 c_Mod_162 rfl ⟨_, rfl, rfl⟩ (Nat.le_of_ble_eq_true rfl) (b_Mod_fine hbz hbz2 ?_)
  exact z_zreturn rfl (Or.inl rfl) d_Mod_reads_107 hQ
theorem lp_readsM {g : Bool} {d : Nat} {Q : List xM → Option Value → Prop} {i0 i6 i8 i9 i10 i13 i14 i18 i22 i23 i24 i25 i27 i28 i33 i42 i43 i44 i45 i46 i47 i48 i51 i52 : Int} {x1 x2 x3 x4 x5 x7 x11 x12 x15 x16 x17 x26 x29 x30 x31 x32 x34 x35 x36 x37 x38 x39 x40 x41 x49 x50 : Int → Int} (hN0 : 0 ≤ i18) (hN1 : i18 ≤ 400) (hNe : x15 i18 = 0) (hcd : ∀ j, 0 ≤ j → j ≤ i18 → (0 ≤ x15 j ∧ x15 j ≤ 400) ∧ (0 ≤ x16 j ∧ x16 j ≤ 100000000) ∧ (0 ≤ x17 j ∧ x17 j ≤ 400)) (hio : i8 = 9 ∧ i9 = 16 ∧ i10 = 0 ∨ i8 = 14 ∧ i9 = 20 ∧ i10 = 1) {R_ : PR (List CXC)} (hok : ∀ (cs : List CXC) (t l : Int), R_ = .inl (cs, t, l) → ∀ j19 j20, Q (MM i0 i6 i8 i9 i10 i13 (-1) i18 j19 j20 (-1) i22 i23 i24 i25 i27 i28 i33 i42 i43 i44 i45 i46 i47 i48 i51 i52 x1 x2 x3 x4 x5 x7 x11 x12 x15 x16 x17 x26 x29 x30 x31 x32 x34 x35 x36 x37 x38 x39 x40 x41 x49 x50) (some (.int (ii 1)))) (her : ∀ (t : Int), R_ = .inr t → ∀ j19 j20, Q (MM i0 i6 i8 i9 i10 i13 (x17 t) i18 j19 j20 (x17 t) i22 i23 i24 i25 i27 i28 i33 i42 i43 i44 i45 i46 i47 i48 i51 i52 x1 x2 x3 x4 x5 x7 x11 x12 x15 x16 x17 x26 x29 x30 x31 x32 x34 x35 x36 x37 x38 x39 x40 x41 x49 x50) (some (.int (ii 0))))  : ∀ (nn : Nat) (tk : Int) (lv : Int) (n : Int) (cs : List CXC) (k : Nat), (13 - n).toNat = nn → 0 ≤ tk → tk ≤ i18 → 0 ≤ lv → lv ≤ 50 → 1 ≤ n → n ≤ 12 → (k : Int) + n = 13 → rdE i18 (pMo x15 (pOne x15 x16 i10 i8 i9) (k + 1) n cs tk lv) = R_ → SJ g m_Mod_reads (d + 36) 34 [some (.ref 0), some (.int (ii n))] [] (MM i0 i6 i8 i9 i10 i13 i14 i18 tk lv (-1) i22 i23 i24 i25 i27 i28 i33 i42 i43 i44 i45 i46 i47 i48 i51 i52 x1 x2 x3 x4 x5 x7 x11 x12 x15 x16 x17 x26 x29 x30 x31 x32 x34 x35 x36 x37 x38 x39 x40 x41 x49 x50) 0 0 Q := by
  intro nn
  induction nn using Nat.strongRecOn with
  | ind nn ih =>
  intro tk lv n cs k hn k0 k1 v0 v1 n0 n1 hk hR
  refine j_aload_n d_Mod_reads_34 rfl ?_
  refine z_bipush d_Mod_reads_35 (by decide) ?_
  refine s_call1 d_Mod_reads_37 c_Mod_208 (Nat.le_of_ble_eq_true rfl) (t_Mod_sign ?_)
  refine v_call1 d_Mod_reads_40 c_Mod_169 rfl ⟨_, rfl, rfl⟩ (Nat.le_of_ble_eq_true rfl) (t_Mod_takes0 hN0 hN1 hNe hcd k0 k1 (by omega) (fun h40 => ?_) (fun h40 => ?_))
  · refine z_if_eq (t := 73) d_Mod_reads_43 (by decide) (by first | omega | exact hw _ | exact hx _ _ | assumption) (fun h => absurd h (by decide)) (fun _ => ?_)
    have hlt : tk < i18 := by
      rcases Int.lt_or_eq_of_le k1 with q | q
      · exact q
      · rw [q, hNe] at h40; omega
    refine j_iload_n d_Mod_reads_46 rfl ?_
    refine z_bipush d_Mod_reads_47 (by decide) ?_
    refine z_icmp_ne (t := 56) d_Mod_reads_49 (by decide) (by first | omega | exact hw _ | exact hx _ _ | assumption) (by first | omega | exact hw _ | exact hx _ _ | assumption) (fun h49 => ?_) (fun h49 => ?_)
    · refine j_aload_n d_Mod_reads_56 rfl ?_
      refine v_call0 d_Mod_reads_57 c_Mod_162 rfl ⟨_, rfl, rfl⟩ (Nat.le_of_ble_eq_true rfl) (g_Mod_fine ?_)
      refine z_if_eq (t := 67) d_Mod_reads_60 (by decide) (by first | omega | exact hw _ | exact hx _ _ | assumption) (fun h => absurd h (by decide)) (fun _ => ?_)
      obtain ⟨k, rfl⟩ : ∃ j, k = j + 1 := ⟨k - 1, by omega⟩
      refine j_aload_n d_Mod_reads_63 rfl ?_
      refine v_call0 d_Mod_reads_64 c_Mod_230 rfl ⟨_, rfl, rfl⟩ (Nat.le_of_ble_eq_true rfl) (oneReads hN0 hN1 hNe hcd hio (tk + 1) lv _ (by omega) (by omega) v0 v1 (fun a t l hF => ?_) (fun t hF l => ?_))
      · have hg := (pOne_R (C := x15) (V := x16) (io := i10) (fw := i8) (lw := i9) hNe (by omega) (tk + 1) lv (by omega) (by omega) v0 v1).1 _ _ _ hF
        refine z_iinc d_Mod_reads_67 rfl (by decide) ?_
        show SJ _ _ _ _ [_, _] _ _ _ _ _
        refine j_goto (t := 34) d_Mod_reads_70 (by decide) ?_
        exact ih _ (by omega) t l (n + 1) (cs ++ [a]) k rfl (by omega) (by omega) (by omega) (by omega) (by omega) (by omega) (by omega) (by rw [← hR, rdE_go h40 (by omega), rdG_go hF])
      · refine z_iinc d_Mod_reads_67 rfl (by decide) ?_
        show SJ _ _ _ _ [_, _] _ _ _ _ _
        refine j_goto (t := 34) d_Mod_reads_70 (by decide) ?_
        refine SJ.mask [true, false] ?_
        show SJ _ _ _ _ [_, none] _ _ _ _ _
        have hgb := (pOne_R (C := x15) (V := x16) (io := i10) (fw := i8) (lw := i9) hNe (by omega) (tk + 1) lv (by omega) (by omega) v0 v1).2 _ hF
        have hck_ := hcd t (by omega) (by omega)
        obtain ⟨hbz, hbz2⟩ := hck_.2.2
        exact sj_readsB hbz hbz2 (her t (by rw [← hR, rdE_go h40 (by omega), rdG_er hF]) _ _)
    · refine j_aload_n d_Mod_reads_52 rfl ?_
      refine v_call0 d_Mod_reads_53 c_Mod_172 rfl ⟨_, rfl, rfl⟩ (Nat.le_of_ble_eq_true rfl) (t_Mod_faults hN0 hN1 hNe hcd (by omega) (by omega) ?_)
      have hck_ := hcd (tk + 1) (by omega) (by omega)
      obtain ⟨hbz, hbz2⟩ := hck_.2.2
      refine j_aload_n d_Mod_reads_56 rfl ?_
      refine v_call0 d_Mod_reads_57 c_Mod_162 rfl ⟨_, rfl, rfl⟩ (Nat.le_of_ble_eq_true rfl) (b_Mod_fine hbz hbz2 ?_)
      refine z_if_eq (t := 67) d_Mod_reads_60 (by decide) (by first | omega | exact hw _ | exact hx _ _ | assumption) (fun _ => ?_) (fun h => absurd h (by decide))
      refine z_iinc d_Mod_reads_67 rfl (by decide) ?_
      show SJ _ _ _ _ [_, _] _ _ _ _ _
      refine j_goto (t := 34) d_Mod_reads_70 (by decide) ?_
      refine SJ.mask [true, false] ?_
      show SJ _ _ _ _ [_, none] _ _ _ _ _
      exact sj_readsB hbz hbz2 (her _ (by rw [← hR, rdE_12 h40 (by omega)]) _ _)
  · refine z_if_eq (t := 73) d_Mod_reads_43 (by decide) (by first | omega | exact hw _ | exact hx _ _ | assumption) (fun _ => ?_) (fun h => absurd h (by decide))
    refine j_aload_n d_Mod_reads_73 rfl ?_
    refine v_call0 d_Mod_reads_74 c_Mod_162 rfl ⟨_, rfl, rfl⟩ (Nat.le_of_ble_eq_true rfl) (g_Mod_fine ?_)
    refine z_if_eq (t := 95) d_Mod_reads_77 (by decide) (by first | omega | exact hw _ | exact hx _ _ | assumption) (fun h => absurd h (by decide)) (fun _ => ?_)
    refine j_aload_n d_Mod_reads_80 rfl ?_
    refine mg_token f_Mod_166 d_Mod_reads_81 ?_
    refine j_aload_n d_Mod_reads_84 rfl ?_
    refine mg_tokens f_Mod_145 d_Mod_reads_85 ?_
    refine z_icmp_ge (t := 95) d_Mod_reads_88 (by decide) (by first | omega | exact hw _ | exact hx _ _ | assumption) (by first | omega | exact hw _ | exact hx _ _ | assumption) (fun h88 => ?_) (fun h88 => ?_)
    · refine j_aload_n d_Mod_reads_95 rfl ?_
      refine j_aload_n d_Mod_reads_96 rfl ?_
      refine mg_bad f_Mod_159 d_Mod_reads_97 ?_
      refine mp_fault f_Mod_55 d_Mod_reads_100 ?_
      refine j_aload_n d_Mod_reads_103 rfl ?_
      refine v_call0 d_Mod_reads_104 c_Mod_162 rfl ⟨_, rfl, rfl⟩ (Nat.le_of_ble_eq_true rfl) (g_Mod_fine ?_)
      exact z_zreturn rfl (Or.inr rfl) d_Mod_reads_107 (hok cs tk lv (by rw [← hR, rdE_end h40 (by omega)]) _ _)
    · refine j_aload_n d_Mod_reads_91 rfl ?_
      refine v_call0 d_Mod_reads_92 c_Mod_172 rfl ⟨_, rfl, rfl⟩ (Nat.le_of_ble_eq_true rfl) (t_Mod_faults hN0 hN1 hNe hcd k0 k1 ?_)
      have hck_ := hcd tk (by omega) (by omega)
      obtain ⟨hbz, hbz2⟩ := hck_.2.2
      refine j_aload_n d_Mod_reads_95 rfl ?_
      refine j_aload_n d_Mod_reads_96 rfl ?_
      refine mg_bad f_Mod_159 d_Mod_reads_97 ?_
      refine mp_fault f_Mod_55 d_Mod_reads_100 ?_
      refine j_aload_n d_Mod_reads_103 rfl ?_
      refine v_call0 d_Mod_reads_104 c_Mod_162 rfl ⟨_, rfl, rfl⟩ (Nat.le_of_ble_eq_true rfl) (b_Mod_fine hbz hbz2 ?_)
      exact z_zreturn rfl (Or.inl rfl) d_Mod_reads_107 (her tk (by rw [← hR, rdE_no h40 (by omega)]) _ _)
