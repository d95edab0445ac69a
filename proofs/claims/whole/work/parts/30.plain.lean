theorem lp_readPlain {g : Bool} {d : Nat} {Q : List xM → Option Value → Prop} {i0 i6 i8 i9 i10 i13 i14 i18 i22 i23 i24 i25 i27 i28 i33 i42 i43 i44 i45 i46 i47 i48 i51 i52 : Int} {x1 x2 x3 x4 x5 x7 x11 x12 x15 x16 x17 x26 x29 x30 x31 x32 x34 x35 x36 x37 x38 x39 x40 x41 x49 x50 : Int → Int} (hN0 : 0 ≤ i18) (hN1 : i18 ≤ 400) (hNe : x15 i18 = 0) (hcd : ∀ j, 0 ≤ j → j ≤ i18 → (0 ≤ x15 j ∧ x15 j ≤ 400) ∧ (0 ≤ x16 j ∧ x16 j ≤ 100000000) ∧ (0 ≤ x17 j ∧ x17 j ≤ 400)) {deep lv : Int} {R : Int × Int} (hkk : SJ g m_Mod_readPlain (d + 5) 16 [some (.ref 0), some (.int (ii deep)), some (.int (ii 0)), none] [] (MM i0 i6 i8 i9 i10 i13 i14 i18 R.2 lv (-1) i22 i23 i24 i25 i27 i28 i33 i42 i43 i44 i45 i46 i47 i48 i51 i52 x1 x2 x3 x4 x5 x7 x11 x12 x15 x16 x17 x26 x29 x30 x31 x32 x34 x35 x36 x37 x38 x39 x40 x41 x49 x50) 0 0 Q) : ∀ (nn : Nat) (k : Nat) (par : Int) (tk : Int), ((k : Int)).toNat = nn → 0 ≤ tk → tk ≤ i18 → i18 - tk < (k : Int) → pNo x15 k par tk = R → SJ g m_Mod_readPlain (d + 5) 2 [some (.ref 0), some (.int (ii deep)), some (.int (ii 1)), none] [] (MM i0 i6 i8 i9 i10 i13 i14 i18 tk lv (-1) i22 i23 i24 i25 i27 i28 i33 i42 i43 i44 i45 i46 i47 i48 i51 i52 x1 x2 x3 x4 x5 x7 x11 x12 x15 x16 x17 x26 x29 x30 x31 x32 x34 x35 x36 x37 x38 x39 x40 x41 x49 x50) 0 0 Q := by
  intro nn
  induction nn using Nat.strongRecOn with
  | ind nn ih =>
  intro k par tk hn k0 k1 hk hR
  obtain ⟨k, rfl⟩ : ∃ j, k = j + 1 := ⟨k - 1, by omega⟩
  simp only [pNo] at hR
  have hck := hcd tk (by omega) (by omega)
  refine j_iload_n d_Mod_readPlain_2 rfl ?_
  refine z_if_eq (t := 16) d_Mod_readPlain_3 (by decide) (by first | omega | exact hw _ | exact hx _ _ | assumption) (fun h => absurd h (by decide)) (fun _ => ?_)
  refine j_aload_n d_Mod_readPlain_6 rfl ?_
  refine z_bipush d_Mod_readPlain_7 (by decide) ?_
  refine v_call1 d_Mod_readPlain_9 c_Mod_169 rfl ⟨_, rfl, rfl⟩ (Nat.le_of_ble_eq_true rfl) (t_Mod_takes0 hN0 hN1 hNe hcd (by omega) (by omega) (by omega) (fun h9 => ?_) (fun h9 => ?_))
  · refine j_istore_n d_Mod_readPlain_12 (by decide) ?_
    show SJ _ _ _ _ [_, _, _, _] _ _ _ _ _
    refine j_goto (t := 2) d_Mod_readPlain_13 (by decide) ?_
    rw [if_pos (by omega)] at hR
    have hne : tk ≠ i18 := fun e => (show x15 tk ≠ 0 by omega) (by rw [e]; exact hNe)
    exact ih _ (by omega) _ _ _ rfl (by omega) (by omega) (by omega) hR
  · refine j_istore_n d_Mod_readPlain_12 (by decide) ?_
    show SJ _ _ _ _ [_, _, _, _] _ _ _ _ _
    refine j_goto (t := 2) d_Mod_readPlain_13 (by decide) ?_
    refine j_iload_n d_Mod_readPlain_2 rfl ?_
    refine z_if_eq (t := 16) d_Mod_readPlain_3 (by decide) (by first | omega | exact hw _ | exact hx _ _ | assumption) (fun _ => ?_) (fun h => absurd h (by decide))
    rw [if_neg (by omega)] at hR
    subst hR
    exact hkk
theorem t_Mod_readPlain {g : Bool} {d : Nat} {Q : List xM → Option Value → Prop} {i0 i6 i8 i9 i10 i13 i14 i18 i22 i23 i24 i25 i27 i28 i33 i42 i43 i44 i45 i46 i47 i48 i51 i52 : Int} {x1 x2 x3 x4 x5 x7 x11 x12 x15 x16 x17 x26 x29 x30 x31 x32 x34 x35 x36 x37 x38 x39 x40 x41 x49 x50 : Int → Int} (hN0 : 0 ≤ i18) (hN1 : i18 ≤ 400) (hNe : x15 i18 = 0) (hcd : ∀ j, 0 ≤ j → j ≤ i18 → (0 ≤ x15 j ∧ x15 j ≤ 400) ∧ (0 ≤ x16 j ∧ x16 j ≤ 100000000) ∧ (0 ≤ x17 j ∧ x17 j ≤ 400)) {deep : Int} (p0 : 0 ≤ deep) (p1 : deep ≤ 8) {FS : Int → Int → PR SXC} {FT : Int → Int → PR TXC} (hS : MR g m_Mod_readSum (d + 4) deep i0 i6 i8 i9 i10 i13 i14 i18 i22 i23 i24 i25 i27 i28 i33 i42 i43 i44 i45 i46 i47 i48 i51 i52 x1 x2 x3 x4 x5 x7 x11 x12 x15 x16 x17 x26 x29 x30 x31 x32 x34 x35 x36 x37 x38 x39 x40 x41 x49 x50 FS) (hTT : deep < 8 → MR g m_Mod_readTest (d + 4) (deep + 1) i0 i6 i8 i9 i10 i13 i14 i18 i22 i23 i24 i25 i27 i28 i33 i42 i43 i44 i45 i46 i47 i48 i51 i52 x1 x2 x3 x4 x5 x7 x11 x12 x15 x16 x17 x26 x29 x30 x31 x32 x34 x35 x36 x37 x38 x39 x40 x41 x49 x50 FT) (h8 : deep = 8 → ∀ tk lv, FT tk lv = .inr (tk - 1)) (hGS : GP i18 FS) (hGT : GP i18 FT) {tk lv : Int} (k0 : 1 ≤ tk) (k1 : tk ≤ i18) (v0 : 0 ≤ lv) (v1 : lv ≤ 50) (hok : ∀ a t l, pPl x15 FS FT tk lv = .inl (a, t, l) → Q (MM i0 i6 i8 i9 i10 i13 i14 i18 t l (-1) i22 i23 i24 i25 i27 i28 i33 i42 i43 i44 i45 i46 i47 i48 i51 i52 x1 x2 x3 x4 x5 x7 x11 x12 x15 x16 x17 x26 x29 x30 x31 x32 x34 x35 x36 x37 x38 x39 x40 x41 x49 x50) none) (her : ∀ t, pPl x15 FS FT tk lv = .inr t → ∀ l, Q (MM i0 i6 i8 i9 i10 i13 i14 i18 t l (x17 t) i22 i23 i24 i25 i27 i28 i33 i42 i43 i44 i45 i46 i47 i48 i51 i52 x1 x2 x3 x4 x5 x7 x11 x12 x15 x16 x17 x26 x29 x30 x31 x32 x34 x35 x36 x37 x38 x39 x40 x41 x49 x50) none)  : CT g m_Mod_readPlain (d + 5) [.ref 0, .int (ii deep)] (MM i0 i6 i8 i9 i10 i13 i14 i18 tk lv (-1) i22 i23 i24 i25 i27 i28 i33 i42 i43 i44 i45 i46 i47 i48 i51 i52 x1 x2 x3 x4 x5 x7 x11 x12 x15 x16 x17 x26 x29 x30 x31 x32 x34 x35 x36 x37 x38 x39 x40 x41 x49 x50) 0 0 Q := by
  refine CT.of (by decide) (Nat.le_of_ble_eq_true rfl) ?_
  show SJ _ _ _ _ [some (.ref 0), some (.int (ii deep)), none, none] [] _ _ _ _
  generalize hR : pPl x15 FS FT tk lv = R at hok her
  unfold pPl at hR
  have hpn := pNo_R hNe 401 0 tk k1
  generalize hpe : pNo x15 401 0 tk = pn at hR hpn
  unfold pPb at hR
  have hck := hcd pn.2 (by omega) (by omega)
  refine z_iconst d_Mod_readPlain_0 ?_
  refine j_istore_n d_Mod_readPlain_1 (by decide) ?_
  show SJ _ _ _ _ [_, _, _, _] _ _ _ _ _
  refine lp_readPlain hN0 hN1 hNe hcd ?_ _ 401 0 tk rfl (by omega) (by omega) (by omega) hpe
  refine j_aload_n d_Mod_readPlain_16 rfl ?_
  refine v_call0 d_Mod_readPlain_17 c_Mod_162 rfl ⟨_, rfl, rfl⟩ (Nat.le_of_ble_eq_true rfl) (g_Mod_fine ?_)
  refine z_if_ne (t := 24) d_Mod_readPlain_20 (by decide) (by first | omega | exact hw _ | exact hx _ _ | assumption) (fun _ => ?_) (fun h => absurd h (by decide))
  refine j_aload_n d_Mod_readPlain_24 rfl ?_
  refine mg_code f_Mod_58 d_Mod_readPlain_25 ?_
  refine j_aload_n d_Mod_readPlain_28 rfl ?_
  refine mg_token f_Mod_166 d_Mod_readPlain_29 ?_
  refine ml_code d_Mod_readPlain_32 (by omega) (by omega) ?_
  refine j_istore_n d_Mod_readPlain_33 (by decide) ?_
  show SJ _ _ _ _ [_, _, _, _] _ _ _ _ _
  refine j_iload_n d_Mod_readPlain_34 rfl ?_
  refine z_bipush d_Mod_readPlain_35 (by decide) ?_
  refine s_call1 d_Mod_readPlain_37 c_Mod_208 (Nat.le_of_ble_eq_true rfl) (t_Mod_sign  ?_)
  refine z_icmp_ne (t := 90) d_Mod_readPlain_40 (by decide) (by first | omega | exact hw _ | exact hx _ _ | assumption) (by first | omega | exact hw _ | exact hx _ _ | assumption) (fun h40 => ?_) (fun h40 => ?_)
  · rw [if_neg (by omega)] at hR
    refine j_aload_n d_Mod_readPlain_90 rfl ?_
    refine j_iload_n d_Mod_readPlain_91 rfl ?_
    refine v_call1 d_Mod_readPlain_92 c_Mod_178 rfl ⟨_, rfl, rfl⟩ (Nat.le_of_ble_eq_true rfl) (hS _ _ _ (by omega) (by omega) (by omega) (by omega) (fun ea2 ta2 la2 hF2 => ?_) (fun ta2 hF2 la2 => ?_))
    · obtain ⟨u12, u22, u32, u42⟩ := (hGS pn.2 lv (by omega) (by omega) (by omega) (by omega)).1 _ _ _ hF2
      have hck2 := hcd ta2 (by omega) (by omega)
      rw [hF2] at hR
      simp only at hR
      refine j_aload_n d_Mod_readPlain_95 rfl ?_
      refine z_bipush d_Mod_readPlain_96 (by decide) ?_
      refine s_call1 d_Mod_readPlain_98 c_Mod_208 (Nat.le_of_ble_eq_true rfl) (t_Mod_sign  ?_)
      refine v_call1 d_Mod_readPlain_101 c_Mod_169 rfl ⟨_, rfl, rfl⟩ (Nat.le_of_ble_eq_true rfl) (t_Mod_takes0 hN0 hN1 hNe hcd (by omega) (by omega) (by omega) (fun h101 => ?_) (fun h101 => ?_))
      · refine z_if_ne (t := 128) d_Mod_readPlain_104 (by decide) (by first | omega | exact hw _ | exact hx _ _ | assumption) (fun _ => ?_) (fun h => absurd h (by decide))
        have hne2 : ta2 ≠ i18 := fun e => (show x15 ta2 ≠ 0 by omega) (by rw [e]; exact hNe)
        rw [if_pos (by omega)] at hR
        refine j_aload_n d_Mod_readPlain_128 rfl ?_
        refine j_iload_n d_Mod_readPlain_129 rfl ?_
        refine v_call1 d_Mod_readPlain_130 c_Mod_178 rfl ⟨_, rfl, rfl⟩ (Nat.le_of_ble_eq_true rfl) (hS _ _ _ (by omega) (by omega) (by omega) (by omega) (fun ea3 ta3 la3 hF3 => ?_) (fun ta3 hF3 la3 => ?_))
        · rw [hF3] at hR
          simp only at hR
          exact j_return rfl d_Mod_readPlain_133 (hok _ _ _ hR.symm)
        · rw [hF3] at hR
          simp only at hR
          exact j_return rfl d_Mod_readPlain_133 (her _ hR.symm _)
      · refine z_if_ne (t := 128) d_Mod_readPlain_104 (by decide) (by first | omega | exact hw _ | exact hx _ _ | assumption) (fun h => absurd h (by decide)) (fun _ => ?_)
        refine j_aload_n d_Mod_readPlain_107 rfl ?_
        refine z_bipush d_Mod_readPlain_108 (by decide) ?_
        refine s_call1 d_Mod_readPlain_110 c_Mod_208 (Nat.le_of_ble_eq_true rfl) (t_Mod_sign  ?_)
        refine v_call1 d_Mod_readPlain_113 c_Mod_169 rfl ⟨_, rfl, rfl⟩ (Nat.le_of_ble_eq_true rfl) (t_Mod_takes0 hN0 hN1 hNe hcd (by omega) (by omega) (by omega) (fun h113 => ?_) (fun h113 => ?_))
        · refine z_if_ne (t := 128) d_Mod_readPlain_116 (by decide) (by first | omega | exact hw _ | exact hx _ _ | assumption) (fun _ => ?_) (fun h => absurd h (by decide))
          have hne2 : ta2 ≠ i18 := fun e => (show x15 ta2 ≠ 0 by omega) (by rw [e]; exact hNe)
          rw [if_pos (by omega)] at hR
          refine j_aload_n d_Mod_readPlain_128 rfl ?_
          refine j_iload_n d_Mod_readPlain_129 rfl ?_
          refine v_call1 d_Mod_readPlain_130 c_Mod_178 rfl ⟨_, rfl, rfl⟩ (Nat.le_of_ble_eq_true rfl) (hS _ _ _ (by omega) (by omega) (by omega) (by omega) (fun ea3 ta3 la3 hF3 => ?_) (fun ta3 hF3 la3 => ?_))
          · rw [hF3] at hR
            simp only at hR
            exact j_return rfl d_Mod_readPlain_133 (hok _ _ _ hR.symm)
          · rw [hF3] at hR
            simp only at hR
            exact j_return rfl d_Mod_readPlain_133 (her _ hR.symm _)
        · refine z_if_ne (t := 128) d_Mod_readPlain_116 (by decide) (by first | omega | exact hw _ | exact hx _ _ | assumption) (fun h => absurd h (by decide)) (fun _ => ?_)
          refine j_aload_n d_Mod_readPlain_119 rfl ?_
          refine z_bipush d_Mod_readPlain_120 (by decide) ?_
          refine s_call1 d_Mod_readPlain_122 c_Mod_208 (Nat.le_of_ble_eq_true rfl) (t_Mod_sign  ?_)
          refine v_call1 d_Mod_readPlain_125 c_Mod_182 rfl ⟨_, rfl, rfl⟩ (Nat.le_of_ble_eq_true rfl) (t_Mod_must hN0 hN1 hNe hcd (by omega) (by omega) (by omega) (fun h125 => ?_) (fun h125 => ?_))
          · have hne2 : ta2 ≠ i18 := fun e => (show x15 ta2 ≠ 0 by omega) (by rw [e]; exact hNe)
            rw [if_pos (by omega)] at hR
            refine j_aload_n d_Mod_readPlain_128 rfl ?_
            refine j_iload_n d_Mod_readPlain_129 rfl ?_
            refine v_call1 d_Mod_readPlain_130 c_Mod_178 rfl ⟨_, rfl, rfl⟩ (Nat.le_of_ble_eq_true rfl) (hS _ _ _ (by omega) (by omega) (by omega) (by omega) (fun ea3 ta3 la3 hF3 => ?_) (fun ta3 hF3 la3 => ?_))
            · rw [hF3] at hR
              simp only at hR
              exact j_return rfl d_Mod_readPlain_133 (hok _ _ _ hR.symm)
            · rw [hF3] at hR
              simp only at hR
              exact j_return rfl d_Mod_readPlain_133 (her _ hR.symm _)
          · rw [if_neg (by omega)] at hR
            obtain ⟨hbz, hbz2⟩ := hck2.2.2
            simp only at hR
            refine j_aload_n d_Mod_readPlain_128 rfl ?_
            refine j_iload_n d_Mod_readPlain_129 rfl ?_
            refine v_call1 d_Mod_readPlain_130 c_Mod_178 rfl ⟨_, rfl, rfl⟩ (Nat.le_of_ble_eq_true rfl) (b_Mod_readSum hbz hbz2 ?_)
            exact j_return rfl d_Mod_readPlain_133 (her _ hR.symm _)
    · obtain ⟨u12, u22⟩ := (hGS pn.2 lv (by omega) (by omega) (by omega) (by omega)).2 _ hF2
      have hck2 := hcd ta2 (by omega) (by omega)
      obtain ⟨hbz, hbz2⟩ := hck2.2.2
      rw [hF2] at hR
      simp only at hR
      refine j_aload_n d_Mod_readPlain_95 rfl ?_
      refine z_bipush d_Mod_readPlain_96 (by decide) ?_
      refine s_call1 d_Mod_readPlain_98 c_Mod_208 (Nat.le_of_ble_eq_true rfl) (t_Mod_sign  ?_)
      refine v_call1 d_Mod_readPlain_101 c_Mod_169 rfl ⟨_, rfl, rfl⟩ (Nat.le_of_ble_eq_true rfl) (b_Mod_takes0 hbz hbz2 ?_)
      refine z_if_ne (t := 128) d_Mod_readPlain_104 (by decide) (by first | omega | exact hw _ | exact hx _ _ | assumption) (fun h => absurd h (by decide)) (fun _ => ?_)
      refine j_aload_n d_Mod_readPlain_107 rfl ?_
      refine z_bipush d_Mod_readPlain_108 (by decide) ?_
      refine s_call1 d_Mod_readPlain_110 c_Mod_208 (Nat.le_of_ble_eq_true rfl) (t_Mod_sign  ?_)
      refine v_call1 d_Mod_readPlain_113 c_Mod_169 rfl ⟨_, rfl, rfl⟩ (Nat.le_of_ble_eq_true rfl) (b_Mod_takes0 hbz hbz2 ?_)
      refine z_if_ne (t := 128) d_Mod_readPlain_116 (by decide) (by first | omega | exact hw _ | exact hx _ _ | assumption) (fun h => absurd h (by decide)) (fun _ => ?_)
      refine j_aload_n d_Mod_readPlain_119 rfl ?_
      refine z_bipush d_Mod_readPlain_120 (by decide) ?_
      refine s_call1 d_Mod_readPlain_122 c_Mod_208 (Nat.le_of_ble_eq_true rfl) (t_Mod_sign  ?_)
      refine v_call1 d_Mod_readPlain_125 c_Mod_182 rfl ⟨_, rfl, rfl⟩ (Nat.le_of_ble_eq_true rfl) (b_Mod_must hbz hbz2 ?_)
      refine j_aload_n d_Mod_readPlain_128 rfl ?_
      refine j_iload_n d_Mod_readPlain_129 rfl ?_
      refine v_call1 d_Mod_readPlain_130 c_Mod_178 rfl ⟨_, rfl, rfl⟩ (Nat.le_of_ble_eq_true rfl) (b_Mod_readSum hbz hbz2 ?_)
      exact j_return rfl d_Mod_readPlain_133 (her _ hR.symm _)
  · rw [if_pos (by omega)] at hR
    have hne : pn.2 ≠ i18 := fun e => (show x15 pn.2 ≠ 0 by omega) (by rw [e]; exact hNe)
    refine j_iload_n d_Mod_readPlain_43 rfl ?_
    refine z_bipush d_Mod_readPlain_44 (by decide) ?_
    refine z_icmp_ne (t := 53) d_Mod_readPlain_46 (by decide) (by first | omega | exact hw _ | exact hx _ _ | assumption) (by first | omega | exact hw _ | exact hx _ _ | assumption) (fun h46 => ?_) (fun h46 => ?_)
    · refine j_aload_n d_Mod_readPlain_53 rfl ?_
      refine v_call0 d_Mod_readPlain_54 c_Mod_162 rfl ⟨_, rfl, rfl⟩ (Nat.le_of_ble_eq_true rfl) (g_Mod_fine ?_)
      refine z_if_ne (t := 61) d_Mod_readPlain_57 (by decide) (by first | omega | exact hw _ | exact hx _ _ | assumption) (fun _ => ?_) (fun h => absurd h (by decide))
      have hT := hTT (by omega)
      refine j_aload_n d_Mod_readPlain_61 rfl ?_
      refine j_dup d_Mod_readPlain_62 rfl ?_
      refine mg_token f_Mod_166 d_Mod_readPlain_63 ?_
      refine z_iconst d_Mod_readPlain_66 ?_
      refine z_iadd d_Mod_readPlain_67 ?_
      refine mp_token f_Mod_166 d_Mod_readPlain_68 ?_
      refine j_aload_n d_Mod_readPlain_71 rfl ?_
      refine j_iload_n d_Mod_readPlain_72 rfl ?_
      refine z_iconst d_Mod_readPlain_73 ?_
      refine z_iadd d_Mod_readPlain_74 ?_
      refine v_call1 d_Mod_readPlain_75 c_Mod_185 rfl ⟨_, rfl, rfl⟩ (Nat.le_of_ble_eq_true rfl) (hT _ _ _ (by omega) (by omega) (by omega) (by omega) (fun ea1 ta1 la1 hF1 => ?_) (fun ta1 hF1 la1 => ?_))
      · obtain ⟨u11, u21, u31, u41⟩ := (hGT (pn.2 + 1) lv (by omega) (by omega) (by omega) (by omega)).1 _ _ _ hF1
        have hck1 := hcd ta1 (by omega) (by omega)
        rw [hF1] at hR
        simp only at hR
        refine j_aload_n d_Mod_readPlain_78 rfl ?_
        refine z_bipush d_Mod_readPlain_79 (by decide) ?_
        refine s_call1 d_Mod_readPlain_81 c_Mod_208 (Nat.le_of_ble_eq_true rfl) (t_Mod_sign  ?_)
        refine v_call1 d_Mod_readPlain_84 c_Mod_182 rfl ⟨_, rfl, rfl⟩ (Nat.le_of_ble_eq_true rfl) (t_Mod_must hN0 hN1 hNe hcd (by omega) (by omega) (by omega) (fun h84 => ?_) (fun h84 => ?_))
        · refine j_goto (t := 133) d_Mod_readPlain_87 (by decide) ?_
          rw [if_pos (by omega)] at hR
          simp only at hR
          exact j_return rfl d_Mod_readPlain_133 (hok _ _ _ hR.symm)
        · refine j_goto (t := 133) d_Mod_readPlain_87 (by decide) ?_
          rw [if_neg (by omega)] at hR
          simp only at hR
          exact j_return rfl d_Mod_readPlain_133 (her _ hR.symm _)
      · obtain ⟨u11, u21⟩ := (hGT (pn.2 + 1) lv (by omega) (by omega) (by omega) (by omega)).2 _ hF1
        have hck1 := hcd ta1 (by omega) (by omega)
        obtain ⟨hbz, hbz2⟩ := hck1.2.2
        rw [hF1] at hR
        simp only at hR
        refine j_aload_n d_Mod_readPlain_78 rfl ?_
        refine z_bipush d_Mod_readPlain_79 (by decide) ?_
        refine s_call1 d_Mod_readPlain_81 c_Mod_208 (Nat.le_of_ble_eq_true rfl) (t_Mod_sign  ?_)
        refine v_call1 d_Mod_readPlain_84 c_Mod_182 rfl ⟨_, rfl, rfl⟩ (Nat.le_of_ble_eq_true rfl) (b_Mod_must hbz hbz2 ?_)
        refine j_goto (t := 133) d_Mod_readPlain_87 (by decide) ?_
        exact j_return rfl d_Mod_readPlain_133 (her _ hR.symm _)
    · refine j_aload_n d_Mod_readPlain_49 rfl ?_
      refine v_call0 d_Mod_readPlain_50 c_Mod_172 rfl ⟨_, rfl, rfl⟩ (Nat.le_of_ble_eq_true rfl) (t_Mod_faults hN0 hN1 hNe hcd (by omega) (by omega) ?_)
      obtain ⟨hbz, hbz2⟩ := hck.2.2
      refine j_aload_n d_Mod_readPlain_53 rfl ?_
      refine v_call0 d_Mod_readPlain_54 c_Mod_162 rfl ⟨_, rfl, rfl⟩ (Nat.le_of_ble_eq_true rfl) (b_Mod_fine hbz hbz2 ?_)
      refine z_if_ne (t := 61) d_Mod_readPlain_57 (by decide) (by first | omega | exact hw _ | exact hx _ _ | assumption) (fun h => absurd h (by decide)) (fun _ => ?_)
      have hF9 := h8 (by omega) (pn.2 + 1) lv
      rw [hF9] at hR
      simp only at hR
      rw [show pn.2 + 1 - 1 = pn.2 by omega] at hR
      exact j_return rfl d_Mod_readPlain_60 (her _ hR.symm _)
