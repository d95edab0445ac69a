theorem t_Mod_readPart {g : Bool} {d : Nat} {Q : List xM → Option Value → Prop} {i0 i6 i8 i9 i10 i13 i14 i18 i22 i23 i24 i25 i27 i28 i33 i42 i43 i44 i45 i46 i47 i48 i51 i52 : Int} {x1 x2 x3 x4 x5 x7 x11 x12 x15 x16 x17 x26 x29 x30 x31 x32 x34 x35 x36 x37 x38 x39 x40 x41 x49 x50 : Int → Int} (hN0 : 0 ≤ i18) (hN1 : i18 ≤ 400) (hNe : x15 i18 = 0) (hcd : ∀ j, 0 ≤ j → j ≤ i18 → (0 ≤ x15 j ∧ x15 j ≤ 400) ∧ (0 ≤ x16 j ∧ x16 j ≤ 100000000) ∧ (0 ≤ x17 j ∧ x17 j ≤ 400)) (hio : i8 = 9 ∧ i9 = 16 ∧ i10 = 0 ∨ i8 = 14 ∧ i9 = 20 ∧ i10 = 1) {deep : Int} (p0 : 0 ≤ deep) (p1 : deep ≤ 8) {F_ : Int → Int → PR SXC} (hS : deep < 8 → MR g m_Mod_readSum (d + 3) (deep + 1) i0 i6 i8 i9 i10 i13 i14 i18 i22 i23 i24 i25 i27 i28 i33 i42 i43 i44 i45 i46 i47 i48 i51 i52 x1 x2 x3 x4 x5 x7 x11 x12 x15 x16 x17 x26 x29 x30 x31 x32 x34 x35 x36 x37 x38 x39 x40 x41 x49 x50 F_) (h8 : deep = 8 → ∀ tk lv, F_ tk lv = .inr (tk - 1)) (hG : GP i18 F_) {tk lv : Int} (k0 : 1 ≤ tk) (k1 : tk ≤ i18) (v0 : 0 ≤ lv) (v1 : lv ≤ 50) (hok : ∀ a t l, pP x15 x16 i10 i8 i9 F_ tk lv = .inl (a, t, l) → Q (MM i0 i6 i8 i9 i10 i13 i14 i18 t l (-1) i22 i23 i24 i25 i27 i28 i33 i42 i43 i44 i45 i46 i47 i48 i51 i52 x1 x2 x3 x4 x5 x7 x11 x12 x15 x16 x17 x26 x29 x30 x31 x32 x34 x35 x36 x37 x38 x39 x40 x41 x49 x50) none) (her : ∀ t, pP x15 x16 i10 i8 i9 F_ tk lv = .inr t → ∀ l, Q (MM i0 i6 i8 i9 i10 i13 i14 i18 t l (x17 t) i22 i23 i24 i25 i27 i28 i33 i42 i43 i44 i45 i46 i47 i48 i51 i52 x1 x2 x3 x4 x5 x7 x11 x12 x15 x16 x17 x26 x29 x30 x31 x32 x34 x35 x36 x37 x38 x39 x40 x41 x49 x50) none)  : CT g m_Mod_readPart (d + 4) [.ref 0, .int (ii deep)] (MM i0 i6 i8 i9 i10 i13 i14 i18 tk lv (-1) i22 i23 i24 i25 i27 i28 i33 i42 i43 i44 i45 i46 i47 i48 i51 i52 x1 x2 x3 x4 x5 x7 x11 x12 x15 x16 x17 x26 x29 x30 x31 x32 x34 x35 x36 x37 x38 x39 x40 x41 x49 x50) 0 0 Q := by
  refine CT.of (by decide) (Nat.le_of_ble_eq_true rfl) ?_
  show SJ _ _ _ _ [some (.ref 0), some (.int (ii deep)), none] [] _ _ _ _
  have hck := hcd tk (by omega) (by omega)
  generalize hR : pP x15 x16 i10 i8 i9 F_ tk lv = R at hok her
  unfold pP at hR
  have hS2 : deep < 8 → MR g m_Mod_readSum (d + 3) (deep + 1) i0 i6 i8 i9 i10 i13 i14 i18 i22 i23 i24 i25 i27 i28 i33 i42 i43 i44 i45 i46 i47 i48 i51 i52 x1 x2 x3 x4 x5 x7 x11 x12 x15 x16 x17 x26 x29 x30 x31 x32 x34 x35 x36 x37 x38 x39 x40 x41 x49 x50 F_ := hS
  clear hS
  refine j_aload_n d_Mod_readPart_0 rfl ?_
  refine v_call0 d_Mod_readPart_1 c_Mod_162 rfl ⟨_, rfl, rfl⟩ (Nat.le_of_ble_eq_true rfl) (g_Mod_fine ?_)
  refine z_if_ne (t := 8) d_Mod_readPart_4 (by decide) (by first | omega | exact hw _ | exact hx _ _ | assumption) (fun _ => ?_) (fun h => absurd h (by decide))
  refine j_aload_n d_Mod_readPart_8 rfl ?_
  refine mg_code f_Mod_58 d_Mod_readPart_9 ?_
  refine j_aload_n d_Mod_readPart_12 rfl ?_
  refine mg_token f_Mod_166 d_Mod_readPart_13 ?_
  refine ml_code d_Mod_readPart_16 (by omega) (by omega) ?_
  refine j_istore_n d_Mod_readPart_17 (by decide) ?_
  show SJ _ _ _ _ [_, _, _] _ _ _ _ _
  refine j_iload_n d_Mod_readPart_18 rfl ?_
  refine z_bipush d_Mod_readPart_19 (by decide) ?_
  refine s_call1 d_Mod_readPart_21 c_Mod_208 (Nat.le_of_ble_eq_true rfl) (t_Mod_sign  ?_)
  refine z_icmp_ne (t := 74) d_Mod_readPart_24 (by decide) (by first | omega | exact hw _ | exact hx _ _ | assumption) (by first | omega | exact hw _ | exact hx _ _ | assumption) (fun h24 => ?_) (fun h24 => ?_)
  · refine j_iload_n d_Mod_readPart_74 rfl ?_
    refine z_bipush d_Mod_readPart_75 (by decide) ?_
    refine z_icmp_ne (t := 95) d_Mod_readPart_77 (by decide) (by first | omega | exact hw _ | exact hx _ _ | assumption) (by first | omega | exact hw _ | exact hx _ _ | assumption) (fun h77 => ?_) (fun h77 => ?_)
    · refine j_iload_n d_Mod_readPart_95 rfl ?_
      refine j_aload_n d_Mod_readPart_96 rfl ?_
      refine mg_firstWord f_Mod_218 d_Mod_readPart_97 ?_
      refine z_icmp_lt (t := 144) d_Mod_readPart_100 (by decide) (by first | omega | exact hw _ | exact hx _ _ | assumption) (by first | omega | exact hw _ | exact hx _ _ | assumption) (fun h100 => ?_) (fun h100 => ?_)
      · rw [if_neg (by omega), if_neg (by omega)] at hR
        refine j_aload_n d_Mod_readPart_144 rfl ?_
        refine v_call0 d_Mod_readPart_145 c_Mod_172 rfl ⟨_, rfl, rfl⟩ (Nat.le_of_ble_eq_true rfl) (t_Mod_faults hN0 hN1 hNe hcd (by omega) (by omega) ?_)
        exact j_return rfl d_Mod_readPart_148 (her _ hR.symm _)
      · refine j_iload_n d_Mod_readPart_103 rfl ?_
        refine j_aload_n d_Mod_readPart_104 rfl ?_
        refine mg_lastWord f_Mod_221 d_Mod_readPart_105 ?_
        refine z_icmp_gt (t := 144) d_Mod_readPart_108 (by decide) (by first | omega | exact hw _ | exact hx _ _ | assumption) (by first | omega | exact hw _ | exact hx _ _ | assumption) (fun h108 => ?_) (fun h108 => ?_)
        · rw [if_neg (by omega), if_neg (by omega)] at hR
          refine j_aload_n d_Mod_readPart_144 rfl ?_
          refine v_call0 d_Mod_readPart_145 c_Mod_172 rfl ⟨_, rfl, rfl⟩ (Nat.le_of_ble_eq_true rfl) (t_Mod_faults hN0 hN1 hNe hcd (by omega) (by omega) ?_)
          exact j_return rfl d_Mod_readPart_148 (her _ hR.symm _)
        · have hne : tk ≠ i18 := fun e => (show x15 tk ≠ 0 by omega) (by rw [e]; exact hNe)
          rw [if_neg (by omega), if_pos (by omega)] at hR
          refine j_aload_n d_Mod_readPart_111 rfl ?_
          refine v_call0 d_Mod_readPart_112 c_Mod_224 rfl ⟨_, rfl, rfl⟩ (Nat.le_of_ble_eq_true rfl) (t_Mod_leaf hN0 hN1 hNe hcd (by omega) (by omega) (by omega) (by omega) (fun h112 => ?_) (fun h112 => ?_))
          · rw [if_neg (by omega)] at hR
            refine j_aload_n d_Mod_readPart_115 rfl ?_
            refine mg_isOrders f_Mod_192 d_Mod_readPart_116 ?_
            refine z_if_eq (t := 148) d_Mod_readPart_119 (by decide) (by first | omega | exact hw _ | exact hx _ _ | assumption) (fun h119 => ?_) (fun h119 => ?_)
            · rw [if_neg (by omega)] at hR
              exact j_return rfl d_Mod_readPart_148 (hok _ _ _ hR.symm)
            · refine j_iload_n d_Mod_readPart_122 rfl ?_
              refine z_bipush d_Mod_readPart_123 (by decide) ?_
              refine z_icmp_eq (t := 134) d_Mod_readPart_125 (by decide) (by first | omega | exact hw _ | exact hx _ _ | assumption) (by first | omega | exact hw _ | exact hx _ _ | assumption) (fun h125 => ?_) (fun h125 => ?_)
              · refine j_aload_n d_Mod_readPart_134 rfl ?_
                refine z_iconst d_Mod_readPart_135 ?_
                refine z_bipush d_Mod_readPart_136 (by decide) ?_
                refine v_call2 d_Mod_readPart_138 c_Mod_188 rfl ⟨_, rfl, rfl⟩ (Nat.le_of_ble_eq_true rfl) (t_Mod_mustNumber hN0 hN1 hNe hcd (by omega) (by omega) (by omega) (by omega) (fun h138 => ?_) (fun h138 => ?_))
                · refine j_goto (t := 148) d_Mod_readPart_141 (by decide) ?_
                  rw [if_pos (by omega), if_pos (by omega)] at hR
                  rw [show tk + 2 = tk + 1 + 1 by omega] at hR
                  exact j_return rfl d_Mod_readPart_148 (hok _ _ _ hR.symm)
                · refine j_goto (t := 148) d_Mod_readPart_141 (by decide) ?_
                  rw [if_pos (by omega), if_neg (by omega)] at hR
                  exact j_return rfl d_Mod_readPart_148 (her _ hR.symm _)
              · refine j_iload_n d_Mod_readPart_128 rfl ?_
                refine z_bipush d_Mod_readPart_129 (by decide) ?_
                refine z_icmp_ne (t := 148) d_Mod_readPart_131 (by decide) (by first | omega | exact hw _ | exact hx _ _ | assumption) (by first | omega | exact hw _ | exact hx _ _ | assumption) (fun h131 => ?_) (fun h131 => ?_)
                · rw [if_neg (by omega)] at hR
                  exact j_return rfl d_Mod_readPart_148 (hok _ _ _ hR.symm)
                · refine j_aload_n d_Mod_readPart_134 rfl ?_
                  refine z_iconst d_Mod_readPart_135 ?_
                  refine z_bipush d_Mod_readPart_136 (by decide) ?_
                  refine v_call2 d_Mod_readPart_138 c_Mod_188 rfl ⟨_, rfl, rfl⟩ (Nat.le_of_ble_eq_true rfl) (t_Mod_mustNumber hN0 hN1 hNe hcd (by omega) (by omega) (by omega) (by omega) (fun h138 => ?_) (fun h138 => ?_))
                  · refine j_goto (t := 148) d_Mod_readPart_141 (by decide) ?_
                    rw [if_pos (by omega), if_pos (by omega)] at hR
                    rw [show tk + 2 = tk + 1 + 1 by omega] at hR
                    exact j_return rfl d_Mod_readPart_148 (hok _ _ _ hR.symm)
                  · refine j_goto (t := 148) d_Mod_readPart_141 (by decide) ?_
                    rw [if_pos (by omega), if_neg (by omega)] at hR
                    exact j_return rfl d_Mod_readPart_148 (her _ hR.symm _)
          · rw [if_pos (by omega)] at hR
            obtain ⟨hbz, hbz2⟩ := hck.2.2
            refine j_aload_n d_Mod_readPart_115 rfl ?_
            refine mg_isOrders f_Mod_192 d_Mod_readPart_116 ?_
            refine z_if_eq (t := 148) d_Mod_readPart_119 (by decide) (by first | omega | exact hw _ | exact hx _ _ | assumption) (fun h119 => ?_) (fun h119 => ?_)
            · exact j_return rfl d_Mod_readPart_148 (her _ hR.symm _)
            · refine j_iload_n d_Mod_readPart_122 rfl ?_
              refine z_bipush d_Mod_readPart_123 (by decide) ?_
              refine z_icmp_eq (t := 134) d_Mod_readPart_125 (by decide) (by first | omega | exact hw _ | exact hx _ _ | assumption) (by first | omega | exact hw _ | exact hx _ _ | assumption) (fun h125 => ?_) (fun h125 => ?_)
              · refine j_aload_n d_Mod_readPart_134 rfl ?_
                refine z_iconst d_Mod_readPart_135 ?_
                refine z_bipush d_Mod_readPart_136 (by decide) ?_
                refine v_call2 d_Mod_readPart_138 c_Mod_188 rfl ⟨_, rfl, rfl⟩ (Nat.le_of_ble_eq_true rfl) (b_Mod_mustNumber hbz hbz2 ?_)
                refine j_goto (t := 148) d_Mod_readPart_141 (by decide) ?_
                exact j_return rfl d_Mod_readPart_148 (her _ hR.symm _)
              · refine j_iload_n d_Mod_readPart_128 rfl ?_
                refine z_bipush d_Mod_readPart_129 (by decide) ?_
                refine z_icmp_ne (t := 148) d_Mod_readPart_131 (by decide) (by first | omega | exact hw _ | exact hx _ _ | assumption) (by first | omega | exact hw _ | exact hx _ _ | assumption) (fun h131 => ?_) (fun h131 => ?_)
                · exact j_return rfl d_Mod_readPart_148 (her _ hR.symm _)
                · refine j_aload_n d_Mod_readPart_134 rfl ?_
                  refine z_iconst d_Mod_readPart_135 ?_
                  refine z_bipush d_Mod_readPart_136 (by decide) ?_
                  refine v_call2 d_Mod_readPart_138 c_Mod_188 rfl ⟨_, rfl, rfl⟩ (Nat.le_of_ble_eq_true rfl) (b_Mod_mustNumber hbz hbz2 ?_)
                  refine j_goto (t := 148) d_Mod_readPart_141 (by decide) ?_
                  exact j_return rfl d_Mod_readPart_148 (her _ hR.symm _)
    · refine j_aload_n d_Mod_readPart_80 rfl ?_
      refine mg_value f_Mod_61 d_Mod_readPart_81 ?_
      refine j_aload_n d_Mod_readPart_84 rfl ?_
      refine mg_token f_Mod_166 d_Mod_readPart_85 ?_
      refine ml_value d_Mod_readPart_88 (by omega) (by omega) ?_
      refine z_sipush d_Mod_readPart_89 (by decide) ?_
      refine z_icmp_le (t := 111) d_Mod_readPart_92 (by decide) (by first | omega | exact hw _ | exact hx _ _ | assumption) (by first | omega | exact hw _ | exact hx _ _ | assumption) (fun h92 => ?_) (fun h92 => ?_)
      · have hne : tk ≠ i18 := fun e => (show x15 tk ≠ 0 by omega) (by rw [e]; exact hNe)
        rw [if_neg (by omega), if_pos (by omega)] at hR
        refine j_aload_n d_Mod_readPart_111 rfl ?_
        refine v_call0 d_Mod_readPart_112 c_Mod_224 rfl ⟨_, rfl, rfl⟩ (Nat.le_of_ble_eq_true rfl) (t_Mod_leaf hN0 hN1 hNe hcd (by omega) (by omega) (by omega) (by omega) (fun h112 => ?_) (fun h112 => ?_))
        · rw [if_neg (by omega)] at hR
          refine j_aload_n d_Mod_readPart_115 rfl ?_
          refine mg_isOrders f_Mod_192 d_Mod_readPart_116 ?_
          refine z_if_eq (t := 148) d_Mod_readPart_119 (by decide) (by first | omega | exact hw _ | exact hx _ _ | assumption) (fun h119 => ?_) (fun h119 => ?_)
          · rw [if_neg (by omega)] at hR
            exact j_return rfl d_Mod_readPart_148 (hok _ _ _ hR.symm)
          · refine j_iload_n d_Mod_readPart_122 rfl ?_
            refine z_bipush d_Mod_readPart_123 (by decide) ?_
            refine z_icmp_eq (t := 134) d_Mod_readPart_125 (by decide) (by first | omega | exact hw _ | exact hx _ _ | assumption) (by first | omega | exact hw _ | exact hx _ _ | assumption) (fun hq => by exfalso; omega) (fun _ => ?_)
            refine j_iload_n d_Mod_readPart_128 rfl ?_
            refine z_bipush d_Mod_readPart_129 (by decide) ?_
            refine z_icmp_ne (t := 148) d_Mod_readPart_131 (by decide) (by first | omega | exact hw _ | exact hx _ _ | assumption) (by first | omega | exact hw _ | exact hx _ _ | assumption) (fun _ => ?_) (fun hq => by exfalso; omega)
            rw [if_neg (by omega)] at hR
            exact j_return rfl d_Mod_readPart_148 (hok _ _ _ hR.symm)
        · rw [if_pos (by omega)] at hR
          obtain ⟨hbz, hbz2⟩ := hck.2.2
          refine j_aload_n d_Mod_readPart_115 rfl ?_
          refine mg_isOrders f_Mod_192 d_Mod_readPart_116 ?_
          refine z_if_eq (t := 148) d_Mod_readPart_119 (by decide) (by first | omega | exact hw _ | exact hx _ _ | assumption) (fun h119 => ?_) (fun h119 => ?_)
          · exact j_return rfl d_Mod_readPart_148 (her _ hR.symm _)
          · refine j_iload_n d_Mod_readPart_122 rfl ?_
            refine z_bipush d_Mod_readPart_123 (by decide) ?_
            refine z_icmp_eq (t := 134) d_Mod_readPart_125 (by decide) (by first | omega | exact hw _ | exact hx _ _ | assumption) (by first | omega | exact hw _ | exact hx _ _ | assumption) (fun hq => by exfalso; omega) (fun _ => ?_)
            refine j_iload_n d_Mod_readPart_128 rfl ?_
            refine z_bipush d_Mod_readPart_129 (by decide) ?_
            refine z_icmp_ne (t := 148) d_Mod_readPart_131 (by decide) (by first | omega | exact hw _ | exact hx _ _ | assumption) (by first | omega | exact hw _ | exact hx _ _ | assumption) (fun _ => ?_) (fun hq => by exfalso; omega)
            exact j_return rfl d_Mod_readPart_148 (her _ hR.symm _)
      · refine j_iload_n d_Mod_readPart_95 rfl ?_
        refine j_aload_n d_Mod_readPart_96 rfl ?_
        refine mg_firstWord f_Mod_218 d_Mod_readPart_97 ?_
        refine z_icmp_lt (t := 144) d_Mod_readPart_100 (by decide) (by first | omega | exact hw _ | exact hx _ _ | assumption) (by first | omega | exact hw _ | exact hx _ _ | assumption) (fun h100 => ?_) (fun h100 => ?_)
        · rw [if_neg (by omega), if_neg (by omega)] at hR
          refine j_aload_n d_Mod_readPart_144 rfl ?_
          refine v_call0 d_Mod_readPart_145 c_Mod_172 rfl ⟨_, rfl, rfl⟩ (Nat.le_of_ble_eq_true rfl) (t_Mod_faults hN0 hN1 hNe hcd (by omega) (by omega) ?_)
          exact j_return rfl d_Mod_readPart_148 (her _ hR.symm _)
        · refine j_iload_n d_Mod_readPart_103 rfl ?_
          refine j_aload_n d_Mod_readPart_104 rfl ?_
          refine mg_lastWord f_Mod_221 d_Mod_readPart_105 ?_
          refine z_icmp_gt (t := 144) d_Mod_readPart_108 (by decide) (by first | omega | exact hw _ | exact hx _ _ | assumption) (by first | omega | exact hw _ | exact hx _ _ | assumption) (fun h108 => ?_) (fun h108 => ?_)
          · rw [if_neg (by omega), if_neg (by omega)] at hR
            refine j_aload_n d_Mod_readPart_144 rfl ?_
            refine v_call0 d_Mod_readPart_145 c_Mod_172 rfl ⟨_, rfl, rfl⟩ (Nat.le_of_ble_eq_true rfl) (t_Mod_faults hN0 hN1 hNe hcd (by omega) (by omega) ?_)
            exact j_return rfl d_Mod_readPart_148 (her _ hR.symm _)
          · have hne : tk ≠ i18 := fun e => (show x15 tk ≠ 0 by omega) (by rw [e]; exact hNe)
            rw [if_neg (by omega), if_pos (by omega)] at hR
            refine j_aload_n d_Mod_readPart_111 rfl ?_
            refine v_call0 d_Mod_readPart_112 c_Mod_224 rfl ⟨_, rfl, rfl⟩ (Nat.le_of_ble_eq_true rfl) (t_Mod_leaf hN0 hN1 hNe hcd (by omega) (by omega) (by omega) (by omega) (fun h112 => ?_) (fun h112 => ?_))
            · rw [if_neg (by omega)] at hR
              refine j_aload_n d_Mod_readPart_115 rfl ?_
              refine mg_isOrders f_Mod_192 d_Mod_readPart_116 ?_
              refine z_if_eq (t := 148) d_Mod_readPart_119 (by decide) (by first | omega | exact hw _ | exact hx _ _ | assumption) (fun h119 => ?_) (fun h119 => ?_)
              · rw [if_neg (by omega)] at hR
                exact j_return rfl d_Mod_readPart_148 (hok _ _ _ hR.symm)
              · refine j_iload_n d_Mod_readPart_122 rfl ?_
                refine z_bipush d_Mod_readPart_123 (by decide) ?_
                refine z_icmp_eq (t := 134) d_Mod_readPart_125 (by decide) (by first | omega | exact hw _ | exact hx _ _ | assumption) (by first | omega | exact hw _ | exact hx _ _ | assumption) (fun hq => by exfalso; omega) (fun _ => ?_)
                refine j_iload_n d_Mod_readPart_128 rfl ?_
                refine z_bipush d_Mod_readPart_129 (by decide) ?_
                refine z_icmp_ne (t := 148) d_Mod_readPart_131 (by decide) (by first | omega | exact hw _ | exact hx _ _ | assumption) (by first | omega | exact hw _ | exact hx _ _ | assumption) (fun _ => ?_) (fun hq => by exfalso; omega)
                rw [if_neg (by omega)] at hR
                exact j_return rfl d_Mod_readPart_148 (hok _ _ _ hR.symm)
            · rw [if_pos (by omega)] at hR
              obtain ⟨hbz, hbz2⟩ := hck.2.2
              refine j_aload_n d_Mod_readPart_115 rfl ?_
              refine mg_isOrders f_Mod_192 d_Mod_readPart_116 ?_
              refine z_if_eq (t := 148) d_Mod_readPart_119 (by decide) (by first | omega | exact hw _ | exact hx _ _ | assumption) (fun h119 => ?_) (fun h119 => ?_)
              · exact j_return rfl d_Mod_readPart_148 (her _ hR.symm _)
              · refine j_iload_n d_Mod_readPart_122 rfl ?_
                refine z_bipush d_Mod_readPart_123 (by decide) ?_
                refine z_icmp_eq (t := 134) d_Mod_readPart_125 (by decide) (by first | omega | exact hw _ | exact hx _ _ | assumption) (by first | omega | exact hw _ | exact hx _ _ | assumption) (fun hq => by exfalso; omega) (fun _ => ?_)
                refine j_iload_n d_Mod_readPart_128 rfl ?_
                refine z_bipush d_Mod_readPart_129 (by decide) ?_
                refine z_icmp_ne (t := 148) d_Mod_readPart_131 (by decide) (by first | omega | exact hw _ | exact hx _ _ | assumption) (by first | omega | exact hw _ | exact hx _ _ | assumption) (fun _ => ?_) (fun hq => by exfalso; omega)
                exact j_return rfl d_Mod_readPart_148 (her _ hR.symm _)
  · rw [if_pos (by omega)] at hR
    have hne : tk ≠ i18 := fun e => (show x15 tk ≠ 0 by omega) (by rw [e]; exact hNe)
    refine j_iload_n d_Mod_readPart_27 rfl ?_
    refine z_bipush d_Mod_readPart_28 (by decide) ?_
    refine z_icmp_ne (t := 37) d_Mod_readPart_30 (by decide) (by first | omega | exact hw _ | exact hx _ _ | assumption) (by first | omega | exact hw _ | exact hx _ _ | assumption) (fun h30 => ?_) (fun h30 => ?_)
    · refine j_aload_n d_Mod_readPart_37 rfl ?_
      refine v_call0 d_Mod_readPart_38 c_Mod_162 rfl ⟨_, rfl, rfl⟩ (Nat.le_of_ble_eq_true rfl) (g_Mod_fine ?_)
      refine z_if_ne (t := 45) d_Mod_readPart_41 (by decide) (by first | omega | exact hw _ | exact hx _ _ | assumption) (fun _ => ?_) (fun h => absurd h (by decide))
      have hS := hS2 (by omega)
      refine j_aload_n d_Mod_readPart_45 rfl ?_
      refine j_dup d_Mod_readPart_46 rfl ?_
      refine mg_token f_Mod_166 d_Mod_readPart_47 ?_
      refine z_iconst d_Mod_readPart_50 ?_
      refine z_iadd d_Mod_readPart_51 ?_
      refine mp_token f_Mod_166 d_Mod_readPart_52 ?_
      refine j_aload_n d_Mod_readPart_55 rfl ?_
      refine j_iload_n d_Mod_readPart_56 rfl ?_
      refine z_iconst d_Mod_readPart_57 ?_
      refine z_iadd d_Mod_readPart_58 ?_
      refine v_call1 d_Mod_readPart_59 c_Mod_178 rfl ⟨_, rfl, rfl⟩ (Nat.le_of_ble_eq_true rfl) (hS _ _ _ (by omega) (by omega) (by omega) (by omega) (fun ea1 ta1 la1 hF1 => ?_) (fun ta1 hF1 la1 => ?_))
      · obtain ⟨u11, u21, u31, u41⟩ := (hG (tk + 1) lv (by omega) (by omega) (by omega) (by omega)).1 _ _ _ hF1
        have hck1 := hcd ta1 (by omega) (by omega)
        rw [hF1] at hR
        simp only at hR
        refine j_aload_n d_Mod_readPart_62 rfl ?_
        refine z_bipush d_Mod_readPart_63 (by decide) ?_
        refine s_call1 d_Mod_readPart_65 c_Mod_208 (Nat.le_of_ble_eq_true rfl) (t_Mod_sign  ?_)
        refine v_call1 d_Mod_readPart_68 c_Mod_182 rfl ⟨_, rfl, rfl⟩ (Nat.le_of_ble_eq_true rfl) (t_Mod_must hN0 hN1 hNe hcd (by omega) (by omega) (by omega) (fun h68 => ?_) (fun h68 => ?_))
        · rw [if_pos (by omega)] at hR
          refine j_goto (t := 148) d_Mod_readPart_71 (by decide) ?_
          exact j_return rfl d_Mod_readPart_148 (hok _ _ _ hR.symm)
        · try rw [if_neg (by omega)] at hR
          refine j_goto (t := 148) d_Mod_readPart_71 (by decide) ?_
          exact j_return rfl d_Mod_readPart_148 (her _ hR.symm _)
      · obtain ⟨u11, u21⟩ := (hG (tk + 1) lv (by omega) (by omega) (by omega) (by omega)).2 _ hF1
        have hck1 := hcd ta1 (by omega) (by omega)
        obtain ⟨hbz, hbz2⟩ := hck1.2.2
        rw [hF1] at hR
        simp only at hR
        refine j_aload_n d_Mod_readPart_62 rfl ?_
        refine z_bipush d_Mod_readPart_63 (by decide) ?_
        refine s_call1 d_Mod_readPart_65 c_Mod_208 (Nat.le_of_ble_eq_true rfl) (t_Mod_sign  ?_)
        refine v_call1 d_Mod_readPart_68 c_Mod_182 rfl ⟨_, rfl, rfl⟩ (Nat.le_of_ble_eq_true rfl) (b_Mod_must hbz hbz2 ?_)
        try rw [if_neg (by omega)] at hR
        refine j_goto (t := 148) d_Mod_readPart_71 (by decide) ?_
        exact j_return rfl d_Mod_readPart_148 (her _ hR.symm _)
    · refine j_aload_n d_Mod_readPart_33 rfl ?_
      refine v_call0 d_Mod_readPart_34 c_Mod_172 rfl ⟨_, rfl, rfl⟩ (Nat.le_of_ble_eq_true rfl) (t_Mod_faults hN0 hN1 hNe hcd (by omega) (by omega) ?_)
      obtain ⟨hbz, hbz2⟩ := hck.2.2
      refine j_aload_n d_Mod_readPart_37 rfl ?_
      refine v_call0 d_Mod_readPart_38 c_Mod_162 rfl ⟨_, rfl, rfl⟩ (Nat.le_of_ble_eq_true rfl) (b_Mod_fine hbz hbz2 ?_)
      refine z_if_ne (t := 45) d_Mod_readPart_41 (by decide) (by first | omega | exact hw _ | exact hx _ _ | assumption) (fun h => absurd h (by decide)) (fun _ => ?_)
      rw [h8 (by omega)] at hR
      simp only at hR
      rw [show tk + 1 - 1 = tk by omega] at hR
      exact j_return rfl d_Mod_readPart_44 (her _ hR.symm _)
