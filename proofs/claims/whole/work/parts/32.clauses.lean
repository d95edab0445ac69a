theorem t_Mod_readClause {g : Bool} {d : Nat} {Q : List xM → Option Value → Prop} {i0 i6 i8 i9 i10 i13 i14 i18 i22 i23 i24 i25 i27 i28 i33 i42 i43 i44 i45 i46 i47 i48 i51 i52 : Int} {x1 x2 x3 x4 x5 x7 x11 x12 x15 x16 x17 x26 x29 x30 x31 x32 x34 x35 x36 x37 x38 x39 x40 x41 x49 x50 : Int → Int} (hN0 : 0 ≤ i18) (hN1 : i18 ≤ 400) (hNe : x15 i18 = 0) (hcd : ∀ j, 0 ≤ j → j ≤ i18 → (0 ≤ x15 j ∧ x15 j ≤ 400) ∧ (0 ≤ x16 j ∧ x16 j ≤ 100000000) ∧ (0 ≤ x17 j ∧ x17 j ≤ 400)) {FS : Int → Int → PR SXC} {FT : Int → Int → PR TXC} (hS : MR g m_Mod_readSum (d + 33) 0 i0 i6 i8 i9 i10 i13 i14 i18 i22 i23 i24 i25 i27 i28 i33 i42 i43 i44 i45 i46 i47 i48 i51 i52 x1 x2 x3 x4 x5 x7 x11 x12 x15 x16 x17 x26 x29 x30 x31 x32 x34 x35 x36 x37 x38 x39 x40 x41 x49 x50 FS) (hT : MR g m_Mod_readTest (d + 33) 0 i0 i6 i8 i9 i10 i13 i14 i18 i22 i23 i24 i25 i27 i28 i33 i42 i43 i44 i45 i46 i47 i48 i51 i52 x1 x2 x3 x4 x5 x7 x11 x12 x15 x16 x17 x26 x29 x30 x31 x32 x34 x35 x36 x37 x38 x39 x40 x41 x49 x50 FT) (hGS : GP i18 FS) (hGT : GP i18 FT) {tk lv : Int} (k0 : 0 ≤ tk) (k1 : tk ≤ i18) (v0 : 0 ≤ lv) (v1 : lv ≤ 50) (hok : ∀ a t l, pLaw x15 FS FT tk lv = .inl (a, t, l) → Q (MM i0 i6 i8 i9 i10 i13 i14 i18 t l (-1) i22 i23 i24 i25 i27 i28 i33 i42 i43 i44 i45 i46 i47 i48 i51 i52 x1 x2 x3 x4 x5 x7 x11 x12 x15 x16 x17 x26 x29 x30 x31 x32 x34 x35 x36 x37 x38 x39 x40 x41 x49 x50) none) (her : ∀ t, pLaw x15 FS FT tk lv = .inr t → ∀ l, Q (MM i0 i6 i8 i9 i10 i13 i14 i18 t l (x17 t) i22 i23 i24 i25 i27 i28 i33 i42 i43 i44 i45 i46 i47 i48 i51 i52 x1 x2 x3 x4 x5 x7 x11 x12 x15 x16 x17 x26 x29 x30 x31 x32 x34 x35 x36 x37 x38 x39 x40 x41 x49 x50) none)  : CT g m_Mod_readClause (d + 34) [.ref 0] (MM i0 i6 i8 i9 i10 i13 i14 i18 tk lv (-1) i22 i23 i24 i25 i27 i28 i33 i42 i43 i44 i45 i46 i47 i48 i51 i52 x1 x2 x3 x4 x5 x7 x11 x12 x15 x16 x17 x26 x29 x30 x31 x32 x34 x35 x36 x37 x38 x39 x40 x41 x49 x50) 0 0 Q := by
  refine CT.of (by decide) (Nat.le_of_ble_eq_true rfl) ?_
  show SJ _ _ _ _ [some (.ref 0)] [] _ _ _ _
  generalize hR : pLaw x15 FS FT tk lv = R at hok her
  unfold pLaw at hR
  have hck := hcd tk k0 k1
  refine j_aload_n d_Mod_readClause_0 rfl ?_
  refine z_iconst d_Mod_readClause_1 ?_
  refine v_call1 d_Mod_readClause_2 c_Mod_169 rfl ⟨_, rfl, rfl⟩ (Nat.le_of_ble_eq_true rfl) (t_Mod_takes0 hN0 hN1 hNe hcd (by omega) (by omega) (by omega) (fun h2 => ?_) (fun h2 => ?_))
  · refine z_if_ne (t := 24) d_Mod_readClause_5 (by decide) (by first | omega | exact hw _ | exact hx _ _ | assumption) (fun _ => ?_) (fun h => absurd h (by decide))
    rw [if_pos (by omega)] at hR
    have hne : tk ≠ i18 := fun e => (show x15 tk ≠ 0 by omega) (by rw [e]; exact hNe)
    refine j_aload_n d_Mod_readClause_24 rfl ?_
    refine z_iconst d_Mod_readClause_25 ?_
    refine v_call1 d_Mod_readClause_26 c_Mod_178 rfl ⟨_, rfl, rfl⟩ (Nat.le_of_ble_eq_true rfl) (hS _ _ _ (by omega) (by omega) (by omega) (by omega) (fun ea0 ta0 la0 hF0 => ?_) (fun ta0 hF0 la0 => ?_))
    · obtain ⟨u10, u20, u30, u40⟩ := (hGS (tk + 1) lv (by omega) (by omega) (by omega) (by omega)).1 _ _ _ hF0
      have hck0 := hcd ta0 (by omega) (by omega)
      rw [hF0] at hR
      simp only at hR
      refine j_goto (t := 37) d_Mod_readClause_29 (by decide) ?_
      unfold pTail at hR
      refine j_aload_n d_Mod_readClause_37 rfl ?_
      refine z_iconst d_Mod_readClause_38 ?_
      refine v_call1 d_Mod_readClause_39 c_Mod_169 rfl ⟨_, rfl, rfl⟩ (Nat.le_of_ble_eq_true rfl) (t_Mod_takes0 hN0 hN1 hNe hcd (by omega) (by omega) (by omega) (fun h39 => ?_) (fun h39 => ?_))
      · refine z_if_eq (t := 50) d_Mod_readClause_42 (by decide) (by first | omega | exact hw _ | exact hx _ _ | assumption) (fun h => absurd h (by decide)) (fun _ => ?_)
        rw [if_pos (by omega)] at hR
        have hneb : ta0 ≠ i18 := fun e => (show x15 ta0 ≠ 0 by omega) (by rw [e]; exact hNe)
        refine j_aload_n d_Mod_readClause_45 rfl ?_
        refine z_iconst d_Mod_readClause_46 ?_
        refine v_call1 d_Mod_readClause_47 c_Mod_185 rfl ⟨_, rfl, rfl⟩ (Nat.le_of_ble_eq_true rfl) (hT _ _ _ (by omega) (by omega) (by omega) (by omega) (fun ea9 ta9 la9 hF9 => ?_) (fun ta9 hF9 la9 => ?_))
        · rw [hF9] at hR
          simp only at hR
          exact j_return rfl d_Mod_readClause_50 (hok _ _ _ hR.symm)
        · rw [hF9] at hR
          simp only at hR
          exact j_return rfl d_Mod_readClause_50 (her _ hR.symm _)
      · refine z_if_eq (t := 50) d_Mod_readClause_42 (by decide) (by first | omega | exact hw _ | exact hx _ _ | assumption) (fun _ => ?_) (fun h => absurd h (by decide))
        rw [if_neg (by omega)] at hR
        exact j_return rfl d_Mod_readClause_50 (hok _ _ _ hR.symm)
    · obtain ⟨u10, u20⟩ := (hGS (tk + 1) lv (by omega) (by omega) (by omega) (by omega)).2 _ hF0
      have hck0 := hcd ta0 (by omega) (by omega)
      obtain ⟨hbz, hbz2⟩ := hck0.2.2
      rw [hF0] at hR
      simp only at hR
      refine j_goto (t := 37) d_Mod_readClause_29 (by decide) ?_
      refine j_aload_n d_Mod_readClause_37 rfl ?_
      refine z_iconst d_Mod_readClause_38 ?_
      refine v_call1 d_Mod_readClause_39 c_Mod_169 rfl ⟨_, rfl, rfl⟩ (Nat.le_of_ble_eq_true rfl) (b_Mod_takes0 hbz hbz2 ?_)
      refine z_if_eq (t := 50) d_Mod_readClause_42 (by decide) (by first | omega | exact hw _ | exact hx _ _ | assumption) (fun _ => ?_) (fun h => absurd h (by decide))
      exact j_return rfl d_Mod_readClause_50 (her _ hR.symm _)
  · refine z_if_ne (t := 24) d_Mod_readClause_5 (by decide) (by first | omega | exact hw _ | exact hx _ _ | assumption) (fun h => absurd h (by decide)) (fun _ => ?_)
    refine j_aload_n d_Mod_readClause_8 rfl ?_
    refine z_iconst d_Mod_readClause_9 ?_
    refine v_call1 d_Mod_readClause_10 c_Mod_169 rfl ⟨_, rfl, rfl⟩ (Nat.le_of_ble_eq_true rfl) (t_Mod_takes0 hN0 hN1 hNe hcd (by omega) (by omega) (by omega) (fun h10 => ?_) (fun h10 => ?_))
    · refine z_if_ne (t := 24) d_Mod_readClause_13 (by decide) (by first | omega | exact hw _ | exact hx _ _ | assumption) (fun _ => ?_) (fun h => absurd h (by decide))
      rw [if_pos (by omega)] at hR
      have hne : tk ≠ i18 := fun e => (show x15 tk ≠ 0 by omega) (by rw [e]; exact hNe)
      refine j_aload_n d_Mod_readClause_24 rfl ?_
      refine z_iconst d_Mod_readClause_25 ?_
      refine v_call1 d_Mod_readClause_26 c_Mod_178 rfl ⟨_, rfl, rfl⟩ (Nat.le_of_ble_eq_true rfl) (hS _ _ _ (by omega) (by omega) (by omega) (by omega) (fun ea0 ta0 la0 hF0 => ?_) (fun ta0 hF0 la0 => ?_))
      · obtain ⟨u10, u20, u30, u40⟩ := (hGS (tk + 1) lv (by omega) (by omega) (by omega) (by omega)).1 _ _ _ hF0
        have hck0 := hcd ta0 (by omega) (by omega)
        rw [hF0] at hR
        simp only at hR
        refine j_goto (t := 37) d_Mod_readClause_29 (by decide) ?_
        unfold pTail at hR
        refine j_aload_n d_Mod_readClause_37 rfl ?_
        refine z_iconst d_Mod_readClause_38 ?_
        refine v_call1 d_Mod_readClause_39 c_Mod_169 rfl ⟨_, rfl, rfl⟩ (Nat.le_of_ble_eq_true rfl) (t_Mod_takes0 hN0 hN1 hNe hcd (by omega) (by omega) (by omega) (fun h39 => ?_) (fun h39 => ?_))
        · refine z_if_eq (t := 50) d_Mod_readClause_42 (by decide) (by first | omega | exact hw _ | exact hx _ _ | assumption) (fun h => absurd h (by decide)) (fun _ => ?_)
          rw [if_pos (by omega)] at hR
          have hneb : ta0 ≠ i18 := fun e => (show x15 ta0 ≠ 0 by omega) (by rw [e]; exact hNe)
          refine j_aload_n d_Mod_readClause_45 rfl ?_
          refine z_iconst d_Mod_readClause_46 ?_
          refine v_call1 d_Mod_readClause_47 c_Mod_185 rfl ⟨_, rfl, rfl⟩ (Nat.le_of_ble_eq_true rfl) (hT _ _ _ (by omega) (by omega) (by omega) (by omega) (fun ea9 ta9 la9 hF9 => ?_) (fun ta9 hF9 la9 => ?_))
          · rw [hF9] at hR
            simp only at hR
            exact j_return rfl d_Mod_readClause_50 (hok _ _ _ hR.symm)
          · rw [hF9] at hR
            simp only at hR
            exact j_return rfl d_Mod_readClause_50 (her _ hR.symm _)
        · refine z_if_eq (t := 50) d_Mod_readClause_42 (by decide) (by first | omega | exact hw _ | exact hx _ _ | assumption) (fun _ => ?_) (fun h => absurd h (by decide))
          rw [if_neg (by omega)] at hR
          exact j_return rfl d_Mod_readClause_50 (hok _ _ _ hR.symm)
      · obtain ⟨u10, u20⟩ := (hGS (tk + 1) lv (by omega) (by omega) (by omega) (by omega)).2 _ hF0
        have hck0 := hcd ta0 (by omega) (by omega)
        obtain ⟨hbz, hbz2⟩ := hck0.2.2
        rw [hF0] at hR
        simp only at hR
        refine j_goto (t := 37) d_Mod_readClause_29 (by decide) ?_
        refine j_aload_n d_Mod_readClause_37 rfl ?_
        refine z_iconst d_Mod_readClause_38 ?_
        refine v_call1 d_Mod_readClause_39 c_Mod_169 rfl ⟨_, rfl, rfl⟩ (Nat.le_of_ble_eq_true rfl) (b_Mod_takes0 hbz hbz2 ?_)
        refine z_if_eq (t := 50) d_Mod_readClause_42 (by decide) (by first | omega | exact hw _ | exact hx _ _ | assumption) (fun _ => ?_) (fun h => absurd h (by decide))
        exact j_return rfl d_Mod_readClause_50 (her _ hR.symm _)
    · refine z_if_ne (t := 24) d_Mod_readClause_13 (by decide) (by first | omega | exact hw _ | exact hx _ _ | assumption) (fun h => absurd h (by decide)) (fun _ => ?_)
      refine j_aload_n d_Mod_readClause_16 rfl ?_
      refine z_iconst d_Mod_readClause_17 ?_
      refine v_call1 d_Mod_readClause_18 c_Mod_169 rfl ⟨_, rfl, rfl⟩ (Nat.le_of_ble_eq_true rfl) (t_Mod_takes0 hN0 hN1 hNe hcd (by omega) (by omega) (by omega) (fun h18 => ?_) (fun h18 => ?_))
      · refine z_if_eq (t := 32) d_Mod_readClause_21 (by decide) (by first | omega | exact hw _ | exact hx _ _ | assumption) (fun h => absurd h (by decide)) (fun _ => ?_)
        rw [if_pos (by omega)] at hR
        have hne : tk ≠ i18 := fun e => (show x15 tk ≠ 0 by omega) (by rw [e]; exact hNe)
        refine j_aload_n d_Mod_readClause_24 rfl ?_
        refine z_iconst d_Mod_readClause_25 ?_
        refine v_call1 d_Mod_readClause_26 c_Mod_178 rfl ⟨_, rfl, rfl⟩ (Nat.le_of_ble_eq_true rfl) (hS _ _ _ (by omega) (by omega) (by omega) (by omega) (fun ea0 ta0 la0 hF0 => ?_) (fun ta0 hF0 la0 => ?_))
        · obtain ⟨u10, u20, u30, u40⟩ := (hGS (tk + 1) lv (by omega) (by omega) (by omega) (by omega)).1 _ _ _ hF0
          have hck0 := hcd ta0 (by omega) (by omega)
          rw [hF0] at hR
          simp only at hR
          refine j_goto (t := 37) d_Mod_readClause_29 (by decide) ?_
          unfold pTail at hR
          refine j_aload_n d_Mod_readClause_37 rfl ?_
          refine z_iconst d_Mod_readClause_38 ?_
          refine v_call1 d_Mod_readClause_39 c_Mod_169 rfl ⟨_, rfl, rfl⟩ (Nat.le_of_ble_eq_true rfl) (t_Mod_takes0 hN0 hN1 hNe hcd (by omega) (by omega) (by omega) (fun h39 => ?_) (fun h39 => ?_))
          · refine z_if_eq (t := 50) d_Mod_readClause_42 (by decide) (by first | omega | exact hw _ | exact hx _ _ | assumption) (fun h => absurd h (by decide)) (fun _ => ?_)
            rw [if_pos (by omega)] at hR
            have hneb : ta0 ≠ i18 := fun e => (show x15 ta0 ≠ 0 by omega) (by rw [e]; exact hNe)
            refine j_aload_n d_Mod_readClause_45 rfl ?_
            refine z_iconst d_Mod_readClause_46 ?_
            refine v_call1 d_Mod_readClause_47 c_Mod_185 rfl ⟨_, rfl, rfl⟩ (Nat.le_of_ble_eq_true rfl) (hT _ _ _ (by omega) (by omega) (by omega) (by omega) (fun ea9 ta9 la9 hF9 => ?_) (fun ta9 hF9 la9 => ?_))
            · rw [hF9] at hR
              simp only at hR
              exact j_return rfl d_Mod_readClause_50 (hok _ _ _ hR.symm)
            · rw [hF9] at hR
              simp only at hR
              exact j_return rfl d_Mod_readClause_50 (her _ hR.symm _)
          · refine z_if_eq (t := 50) d_Mod_readClause_42 (by decide) (by first | omega | exact hw _ | exact hx _ _ | assumption) (fun _ => ?_) (fun h => absurd h (by decide))
            rw [if_neg (by omega)] at hR
            exact j_return rfl d_Mod_readClause_50 (hok _ _ _ hR.symm)
        · obtain ⟨u10, u20⟩ := (hGS (tk + 1) lv (by omega) (by omega) (by omega) (by omega)).2 _ hF0
          have hck0 := hcd ta0 (by omega) (by omega)
          obtain ⟨hbz, hbz2⟩ := hck0.2.2
          rw [hF0] at hR
          simp only at hR
          refine j_goto (t := 37) d_Mod_readClause_29 (by decide) ?_
          refine j_aload_n d_Mod_readClause_37 rfl ?_
          refine z_iconst d_Mod_readClause_38 ?_
          refine v_call1 d_Mod_readClause_39 c_Mod_169 rfl ⟨_, rfl, rfl⟩ (Nat.le_of_ble_eq_true rfl) (b_Mod_takes0 hbz hbz2 ?_)
          refine z_if_eq (t := 50) d_Mod_readClause_42 (by decide) (by first | omega | exact hw _ | exact hx _ _ | assumption) (fun _ => ?_) (fun h => absurd h (by decide))
          exact j_return rfl d_Mod_readClause_50 (her _ hR.symm _)
      · refine z_if_eq (t := 32) d_Mod_readClause_21 (by decide) (by first | omega | exact hw _ | exact hx _ _ | assumption) (fun _ => ?_) (fun h => absurd h (by decide))
        rw [if_neg (by omega)] at hR
        refine j_aload_n d_Mod_readClause_32 rfl ?_
        refine z_iconst d_Mod_readClause_33 ?_
        refine v_call1 d_Mod_readClause_34 c_Mod_182 rfl ⟨_, rfl, rfl⟩ (Nat.le_of_ble_eq_true rfl) (t_Mod_must hN0 hN1 hNe hcd (by omega) (by omega) (by omega) (fun h34 => ?_) (fun h34 => ?_))
        · have hne : tk ≠ i18 := fun e => (show x15 tk ≠ 0 by omega) (by rw [e]; exact hNe)
          rw [if_pos (by omega)] at hR
          unfold pTail at hR
          have hck1 := hcd (tk + 1) (by omega) (by omega)
          refine j_aload_n d_Mod_readClause_37 rfl ?_
          refine z_iconst d_Mod_readClause_38 ?_
          refine v_call1 d_Mod_readClause_39 c_Mod_169 rfl ⟨_, rfl, rfl⟩ (Nat.le_of_ble_eq_true rfl) (t_Mod_takes0 hN0 hN1 hNe hcd (by omega) (by omega) (by omega) (fun h39 => ?_) (fun h39 => ?_))
          · refine z_if_eq (t := 50) d_Mod_readClause_42 (by decide) (by first | omega | exact hw _ | exact hx _ _ | assumption) (fun h => absurd h (by decide)) (fun _ => ?_)
            rw [if_pos (by omega)] at hR
            have hneb : (tk + 1) ≠ i18 := fun e => (show x15 (tk + 1) ≠ 0 by omega) (by rw [e]; exact hNe)
            refine j_aload_n d_Mod_readClause_45 rfl ?_
            refine z_iconst d_Mod_readClause_46 ?_
            refine v_call1 d_Mod_readClause_47 c_Mod_185 rfl ⟨_, rfl, rfl⟩ (Nat.le_of_ble_eq_true rfl) (hT _ _ _ (by omega) (by omega) (by omega) (by omega) (fun ea9 ta9 la9 hF9 => ?_) (fun ta9 hF9 la9 => ?_))
            · rw [hF9] at hR
              simp only at hR
              exact j_return rfl d_Mod_readClause_50 (hok _ _ _ hR.symm)
            · rw [hF9] at hR
              simp only at hR
              exact j_return rfl d_Mod_readClause_50 (her _ hR.symm _)
          · refine z_if_eq (t := 50) d_Mod_readClause_42 (by decide) (by first | omega | exact hw _ | exact hx _ _ | assumption) (fun _ => ?_) (fun h => absurd h (by decide))
            rw [if_neg (by omega)] at hR
            exact j_return rfl d_Mod_readClause_50 (hok _ _ _ hR.symm)
        · rw [if_neg (by omega)] at hR
          obtain ⟨hbz, hbz2⟩ := hck.2.2
          refine j_aload_n d_Mod_readClause_37 rfl ?_
          refine z_iconst d_Mod_readClause_38 ?_
          refine v_call1 d_Mod_readClause_39 c_Mod_169 rfl ⟨_, rfl, rfl⟩ (Nat.le_of_ble_eq_true rfl) (b_Mod_takes0 hbz hbz2 ?_)
          refine z_if_eq (t := 50) d_Mod_readClause_42 (by decide) (by first | omega | exact hw _ | exact hx _ _ | assumption) (fun _ => ?_) (fun h => absurd h (by decide))
          exact j_return rfl d_Mod_readClause_50 (her _ hR.symm _)
theorem t_Mod_readOrder {g : Bool} {d : Nat} {Q : List xM → Option Value → Prop} {i0 i6 i8 i9 i10 i13 i14 i18 i22 i23 i24 i25 i27 i28 i33 i42 i43 i44 i45 i46 i47 i48 i51 i52 : Int} {x1 x2 x3 x4 x5 x7 x11 x12 x15 x16 x17 x26 x29 x30 x31 x32 x34 x35 x36 x37 x38 x39 x40 x41 x49 x50 : Int → Int} (hN0 : 0 ≤ i18) (hN1 : i18 ≤ 400) (hNe : x15 i18 = 0) (hcd : ∀ j, 0 ≤ j → j ≤ i18 → (0 ≤ x15 j ∧ x15 j ≤ 400) ∧ (0 ≤ x16 j ∧ x16 j ≤ 100000000) ∧ (0 ≤ x17 j ∧ x17 j ≤ 400)) {FS : Int → Int → PR SXC} {FT : Int → Int → PR TXC} (hS : MR g m_Mod_readSum (d + 33) 0 i0 i6 i8 i9 i10 i13 i14 i18 i22 i23 i24 i25 i27 i28 i33 i42 i43 i44 i45 i46 i47 i48 i51 i52 x1 x2 x3 x4 x5 x7 x11 x12 x15 x16 x17 x26 x29 x30 x31 x32 x34 x35 x36 x37 x38 x39 x40 x41 x49 x50 FS) (hT : MR g m_Mod_readTest (d + 33) 0 i0 i6 i8 i9 i10 i13 i14 i18 i22 i23 i24 i25 i27 i28 i33 i42 i43 i44 i45 i46 i47 i48 i51 i52 x1 x2 x3 x4 x5 x7 x11 x12 x15 x16 x17 x26 x29 x30 x31 x32 x34 x35 x36 x37 x38 x39 x40 x41 x49 x50 FT) (hGS : GP i18 FS) (hGT : GP i18 FT) {tk lv : Int} (k0 : 0 ≤ tk) (k1 : tk ≤ i18) (v0 : 0 ≤ lv) (v1 : lv ≤ 50) (hok : ∀ a t l, pOrd x15 x16 FS FT tk lv = .inl (a, t, l) → Q (MM i0 i6 i8 i9 i10 i13 i14 i18 t l (-1) i22 i23 i24 i25 i27 i28 i33 i42 i43 i44 i45 i46 i47 i48 i51 i52 x1 x2 x3 x4 x5 x7 x11 x12 x15 x16 x17 x26 x29 x30 x31 x32 x34 x35 x36 x37 x38 x39 x40 x41 x49 x50) none) (her : ∀ t, pOrd x15 x16 FS FT tk lv = .inr t → ∀ l, Q (MM i0 i6 i8 i9 i10 i13 i14 i18 t l (x17 t) i22 i23 i24 i25 i27 i28 i33 i42 i43 i44 i45 i46 i47 i48 i51 i52 x1 x2 x3 x4 x5 x7 x11 x12 x15 x16 x17 x26 x29 x30 x31 x32 x34 x35 x36 x37 x38 x39 x40 x41 x49 x50) none)  : CT g m_Mod_readOrder (d + 34) [.ref 0] (MM i0 i6 i8 i9 i10 i13 i14 i18 tk lv (-1) i22 i23 i24 i25 i27 i28 i33 i42 i43 i44 i45 i46 i47 i48 i51 i52 x1 x2 x3 x4 x5 x7 x11 x12 x15 x16 x17 x26 x29 x30 x31 x32 x34 x35 x36 x37 x38 x39 x40 x41 x49 x50) 0 0 Q := by
  refine CT.of (by decide) (Nat.le_of_ble_eq_true rfl) ?_
  show SJ _ _ _ _ [some (.ref 0)] [] _ _ _ _
  generalize hR : pOrd x15 x16 FS FT tk lv = R at hok her
  unfold pOrd at hR
  have hck := hcd tk k0 k1
  refine j_aload_n d_Mod_readOrder_0 rfl ?_
  refine z_bipush d_Mod_readOrder_1 (by decide) ?_
  refine v_call1 d_Mod_readOrder_3 c_Mod_169 rfl ⟨_, rfl, rfl⟩ (Nat.le_of_ble_eq_true rfl) (t_Mod_takes0 hN0 hN1 hNe hcd (by omega) (by omega) (by omega) (fun h3 => ?_) (fun h3 => ?_))
  · refine z_if_eq (t := 28) d_Mod_readOrder_6 (by decide) (by first | omega | exact hw _ | exact hx _ _ | assumption) (fun h => absurd h (by decide)) (fun _ => ?_)
    have hne : tk ≠ i18 := fun e => (show x15 tk ≠ 0 by omega) (by rw [e]; exact hNe)
    rw [if_pos (by omega)] at hR
    unfold pTwo at hR
    refine j_aload_n d_Mod_readOrder_9 rfl ?_
    refine z_iconst d_Mod_readOrder_10 ?_
    refine v_call1 d_Mod_readOrder_11 c_Mod_178 rfl ⟨_, rfl, rfl⟩ (Nat.le_of_ble_eq_true rfl) (hS _ _ _ (by omega) (by omega) (by omega) (by omega) (fun ea0 ta0 la0 hF0 => ?_) (fun ta0 hF0 la0 => ?_))
    · obtain ⟨u10, u20, u30, u40⟩ := (hGS (tk + 1) lv (by omega) (by omega) (by omega) (by omega)).1 _ _ _ hF0
      have hck0 := hcd ta0 (by omega) (by omega)
      rw [hF0] at hR
      simp only at hR
      refine j_aload_n d_Mod_readOrder_14 rfl ?_
      refine z_bipush d_Mod_readOrder_15 (by decide) ?_
      refine v_call1 d_Mod_readOrder_17 c_Mod_182 rfl ⟨_, rfl, rfl⟩ (Nat.le_of_ble_eq_true rfl) (t_Mod_must hN0 hN1 hNe hcd (by omega) (by omega) (by omega) (fun h17 => ?_) (fun h17 => ?_))
      · have hnem : ta0 ≠ i18 := fun e => (show x15 ta0 ≠ 0 by omega) (by rw [e]; exact hNe)
        rw [if_pos (by omega)] at hR
        refine j_aload_n d_Mod_readOrder_20 rfl ?_
        refine z_iconst d_Mod_readOrder_21 ?_
        refine v_call1 d_Mod_readOrder_22 c_Mod_178 rfl ⟨_, rfl, rfl⟩ (Nat.le_of_ble_eq_true rfl) (hS _ _ _ (by omega) (by omega) (by omega) (by omega) (fun ea1 ta1 la1 hF1 => ?_) (fun ta1 hF1 la1 => ?_))
        · obtain ⟨u11, u21, u31, u41⟩ := (hGS (ta0 + 1) la0 (by omega) (by omega) (by omega) (by omega)).1 _ _ _ hF1
          have hck1 := hcd ta1 (by omega) (by omega)
          rw [hF1] at hR
          simp only at hR
          refine j_goto (t := 79) d_Mod_readOrder_25 (by decide) ?_
          unfold pTm at hR
          refine j_aload_n d_Mod_readOrder_79 rfl ?_
          refine z_bipush d_Mod_readOrder_80 (by decide) ?_
          refine v_call1 d_Mod_readOrder_82 c_Mod_169 rfl ⟨_, rfl, rfl⟩ (Nat.le_of_ble_eq_true rfl) (t_Mod_takes0 hN0 hN1 hNe hcd (by omega) (by omega) (by omega) (fun h82 => ?_) (fun h82 => ?_))
          · refine z_if_eq (t := 95) d_Mod_readOrder_85 (by decide) (by first | omega | exact hw _ | exact hx _ _ | assumption) (fun h => absurd h (by decide)) (fun _ => ?_)
            rw [if_pos (by omega)] at hR
            have hnec : ta1 ≠ i18 := fun e => (show x15 ta1 ≠ 0 by omega) (by rw [e]; exact hNe)
            have hckc := hcd (ta1 + 1) (by omega) (by omega)
            obtain ⟨hbc, hbc2⟩ := hckc.2.2
            refine j_aload_n d_Mod_readOrder_88 rfl ?_
            refine z_iconst d_Mod_readOrder_89 ?_
            refine z_bipush d_Mod_readOrder_90 (by decide) ?_
            refine v_call2 d_Mod_readOrder_92 c_Mod_188 rfl ⟨_, rfl, rfl⟩ (Nat.le_of_ble_eq_true rfl) (t_Mod_mustNumber hN0 hN1 hNe hcd (by omega) (by omega) (by omega) (by omega) (fun h92 => ?_) (fun h92 => ?_))
            · rw [if_pos (by omega)] at hR
              unfold pTail at hR
              rw [show ta1 + 2 = ta1 + 1 + 1 by omega] at hR
              have hned : ta1 + 1 ≠ i18 := fun e => (show x15 (ta1 + 1) ≠ 0 by omega) (by rw [e]; exact hNe)
              have hckd := hcd (ta1 + 1 + 1) (by omega) (by omega)
              refine j_aload_n d_Mod_readOrder_95 rfl ?_
              refine z_iconst d_Mod_readOrder_96 ?_
              refine v_call1 d_Mod_readOrder_97 c_Mod_169 rfl ⟨_, rfl, rfl⟩ (Nat.le_of_ble_eq_true rfl) (t_Mod_takes0 hN0 hN1 hNe hcd (by omega) (by omega) (by omega) (fun h97 => ?_) (fun h97 => ?_))
              · refine z_if_eq (t := 108) d_Mod_readOrder_100 (by decide) (by first | omega | exact hw _ | exact hx _ _ | assumption) (fun h => absurd h (by decide)) (fun _ => ?_)
                rw [if_pos (by omega)] at hR
                have hneb : (ta1 + 1 + 1) ≠ i18 := fun e => (show x15 (ta1 + 1 + 1) ≠ 0 by omega) (by rw [e]; exact hNe)
                refine j_aload_n d_Mod_readOrder_103 rfl ?_
                refine z_iconst d_Mod_readOrder_104 ?_
                refine v_call1 d_Mod_readOrder_105 c_Mod_185 rfl ⟨_, rfl, rfl⟩ (Nat.le_of_ble_eq_true rfl) (hT _ _ _ (by omega) (by omega) (by omega) (by omega) (fun ea9 ta9 la9 hF9 => ?_) (fun ta9 hF9 la9 => ?_))
                · rw [hF9] at hR
                  simp only at hR
                  exact j_return rfl d_Mod_readOrder_108 (hok _ _ _ hR.symm)
                · rw [hF9] at hR
                  simp only at hR
                  exact j_return rfl d_Mod_readOrder_108 (her _ hR.symm _)
              · refine z_if_eq (t := 108) d_Mod_readOrder_100 (by decide) (by first | omega | exact hw _ | exact hx _ _ | assumption) (fun _ => ?_) (fun h => absurd h (by decide))
                rw [if_neg (by omega)] at hR
                exact j_return rfl d_Mod_readOrder_108 (hok _ _ _ hR.symm)
            · rw [if_neg (by omega)] at hR
              have hbz := hbc
              have hbz2 := hbc2
              refine j_aload_n d_Mod_readOrder_95 rfl ?_
              refine z_iconst d_Mod_readOrder_96 ?_
              refine v_call1 d_Mod_readOrder_97 c_Mod_169 rfl ⟨_, rfl, rfl⟩ (Nat.le_of_ble_eq_true rfl) (b_Mod_takes0 hbz hbz2 ?_)
              refine z_if_eq (t := 108) d_Mod_readOrder_100 (by decide) (by first | omega | exact hw _ | exact hx _ _ | assumption) (fun _ => ?_) (fun h => absurd h (by decide))
              exact j_return rfl d_Mod_readOrder_108 (her _ hR.symm _)
          · refine z_if_eq (t := 95) d_Mod_readOrder_85 (by decide) (by first | omega | exact hw _ | exact hx _ _ | assumption) (fun _ => ?_) (fun h => absurd h (by decide))
            rw [if_neg (by omega)] at hR
            unfold pTail at hR
            refine j_aload_n d_Mod_readOrder_95 rfl ?_
            refine z_iconst d_Mod_readOrder_96 ?_
            refine v_call1 d_Mod_readOrder_97 c_Mod_169 rfl ⟨_, rfl, rfl⟩ (Nat.le_of_ble_eq_true rfl) (t_Mod_takes0 hN0 hN1 hNe hcd (by omega) (by omega) (by omega) (fun h97 => ?_) (fun h97 => ?_))
            · refine z_if_eq (t := 108) d_Mod_readOrder_100 (by decide) (by first | omega | exact hw _ | exact hx _ _ | assumption) (fun h => absurd h (by decide)) (fun _ => ?_)
              rw [if_pos (by omega)] at hR
              have hneb : ta1 ≠ i18 := fun e => (show x15 ta1 ≠ 0 by omega) (by rw [e]; exact hNe)
              refine j_aload_n d_Mod_readOrder_103 rfl ?_
              refine z_iconst d_Mod_readOrder_104 ?_
              refine v_call1 d_Mod_readOrder_105 c_Mod_185 rfl ⟨_, rfl, rfl⟩ (Nat.le_of_ble_eq_true rfl) (hT _ _ _ (by omega) (by omega) (by omega) (by omega) (fun ea9 ta9 la9 hF9 => ?_) (fun ta9 hF9 la9 => ?_))
              · rw [hF9] at hR
                simp only at hR
                exact j_return rfl d_Mod_readOrder_108 (hok _ _ _ hR.symm)
              · rw [hF9] at hR
                simp only at hR
                exact j_return rfl d_Mod_readOrder_108 (her _ hR.symm _)
            · refine z_if_eq (t := 108) d_Mod_readOrder_100 (by decide) (by first | omega | exact hw _ | exact hx _ _ | assumption) (fun _ => ?_) (fun h => absurd h (by decide))
              rw [if_neg (by omega)] at hR
              exact j_return rfl d_Mod_readOrder_108 (hok _ _ _ hR.symm)
        · obtain ⟨u11, u21⟩ := (hGS (ta0 + 1) la0 (by omega) (by omega) (by omega) (by omega)).2 _ hF1
          have hck1 := hcd ta1 (by omega) (by omega)
          obtain ⟨hbz, hbz2⟩ := hck1.2.2
          rw [hF1] at hR
          simp only at hR
          refine j_goto (t := 79) d_Mod_readOrder_25 (by decide) ?_
          refine j_aload_n d_Mod_readOrder_79 rfl ?_
          refine z_bipush d_Mod_readOrder_80 (by decide) ?_
          refine v_call1 d_Mod_readOrder_82 c_Mod_169 rfl ⟨_, rfl, rfl⟩ (Nat.le_of_ble_eq_true rfl) (b_Mod_takes0 hbz hbz2 ?_)
          refine z_if_eq (t := 95) d_Mod_readOrder_85 (by decide) (by first | omega | exact hw _ | exact hx _ _ | assumption) (fun _ => ?_) (fun h => absurd h (by decide))
          refine j_aload_n d_Mod_readOrder_95 rfl ?_
          refine z_iconst d_Mod_readOrder_96 ?_
          refine v_call1 d_Mod_readOrder_97 c_Mod_169 rfl ⟨_, rfl, rfl⟩ (Nat.le_of_ble_eq_true rfl) (b_Mod_takes0 hbz hbz2 ?_)
          refine z_if_eq (t := 108) d_Mod_readOrder_100 (by decide) (by first | omega | exact hw _ | exact hx _ _ | assumption) (fun _ => ?_) (fun h => absurd h (by decide))
          exact j_return rfl d_Mod_readOrder_108 (her _ hR.symm _)
      · rw [if_neg (by omega)] at hR
        obtain ⟨hbz, hbz2⟩ := hck0.2.2
        refine j_aload_n d_Mod_readOrder_20 rfl ?_
        refine z_iconst d_Mod_readOrder_21 ?_
        refine v_call1 d_Mod_readOrder_22 c_Mod_178 rfl ⟨_, rfl, rfl⟩ (Nat.le_of_ble_eq_true rfl) (b_Mod_readSum hbz hbz2 ?_)
        refine j_goto (t := 79) d_Mod_readOrder_25 (by decide) ?_
        refine j_aload_n d_Mod_readOrder_79 rfl ?_
        refine z_bipush d_Mod_readOrder_80 (by decide) ?_
        refine v_call1 d_Mod_readOrder_82 c_Mod_169 rfl ⟨_, rfl, rfl⟩ (Nat.le_of_ble_eq_true rfl) (b_Mod_takes0 hbz hbz2 ?_)
        refine z_if_eq (t := 95) d_Mod_readOrder_85 (by decide) (by first | omega | exact hw _ | exact hx _ _ | assumption) (fun _ => ?_) (fun h => absurd h (by decide))
        refine j_aload_n d_Mod_readOrder_95 rfl ?_
        refine z_iconst d_Mod_readOrder_96 ?_
        refine v_call1 d_Mod_readOrder_97 c_Mod_169 rfl ⟨_, rfl, rfl⟩ (Nat.le_of_ble_eq_true rfl) (b_Mod_takes0 hbz hbz2 ?_)
        refine z_if_eq (t := 108) d_Mod_readOrder_100 (by decide) (by first | omega | exact hw _ | exact hx _ _ | assumption) (fun _ => ?_) (fun h => absurd h (by decide))
        exact j_return rfl d_Mod_readOrder_108 (her _ hR.symm _)
    · obtain ⟨u10, u20⟩ := (hGS (tk + 1) lv (by omega) (by omega) (by omega) (by omega)).2 _ hF0
      have hck0 := hcd ta0 (by omega) (by omega)
      obtain ⟨hbz, hbz2⟩ := hck0.2.2
      rw [hF0] at hR
      simp only at hR
      refine j_aload_n d_Mod_readOrder_14 rfl ?_
      refine z_bipush d_Mod_readOrder_15 (by decide) ?_
      refine v_call1 d_Mod_readOrder_17 c_Mod_182 rfl ⟨_, rfl, rfl⟩ (Nat.le_of_ble_eq_true rfl) (b_Mod_must hbz hbz2 ?_)
      refine j_aload_n d_Mod_readOrder_20 rfl ?_
      refine z_iconst d_Mod_readOrder_21 ?_
      refine v_call1 d_Mod_readOrder_22 c_Mod_178 rfl ⟨_, rfl, rfl⟩ (Nat.le_of_ble_eq_true rfl) (b_Mod_readSum hbz hbz2 ?_)
      refine j_goto (t := 79) d_Mod_readOrder_25 (by decide) ?_
      refine j_aload_n d_Mod_readOrder_79 rfl ?_
      refine z_bipush d_Mod_readOrder_80 (by decide) ?_
      refine v_call1 d_Mod_readOrder_82 c_Mod_169 rfl ⟨_, rfl, rfl⟩ (Nat.le_of_ble_eq_true rfl) (b_Mod_takes0 hbz hbz2 ?_)
      refine z_if_eq (t := 95) d_Mod_readOrder_85 (by decide) (by first | omega | exact hw _ | exact hx _ _ | assumption) (fun _ => ?_) (fun h => absurd h (by decide))
      refine j_aload_n d_Mod_readOrder_95 rfl ?_
      refine z_iconst d_Mod_readOrder_96 ?_
      refine v_call1 d_Mod_readOrder_97 c_Mod_169 rfl ⟨_, rfl, rfl⟩ (Nat.le_of_ble_eq_true rfl) (b_Mod_takes0 hbz hbz2 ?_)
      refine z_if_eq (t := 108) d_Mod_readOrder_100 (by decide) (by first | omega | exact hw _ | exact hx _ _ | assumption) (fun _ => ?_) (fun h => absurd h (by decide))
      exact j_return rfl d_Mod_readOrder_108 (her _ hR.symm _)
  · refine z_if_eq (t := 28) d_Mod_readOrder_6 (by decide) (by first | omega | exact hw _ | exact hx _ _ | assumption) (fun _ => ?_) (fun h => absurd h (by decide))
    rw [if_neg (by omega)] at hR
    refine j_aload_n d_Mod_readOrder_28 rfl ?_
    refine z_bipush d_Mod_readOrder_29 (by decide) ?_
    refine v_call1 d_Mod_readOrder_31 c_Mod_169 rfl ⟨_, rfl, rfl⟩ (Nat.le_of_ble_eq_true rfl) (t_Mod_takes0 hN0 hN1 hNe hcd (by omega) (by omega) (by omega) (fun h31 => ?_) (fun h31 => ?_))
    · refine z_if_eq (t := 56) d_Mod_readOrder_34 (by decide) (by first | omega | exact hw _ | exact hx _ _ | assumption) (fun h => absurd h (by decide)) (fun _ => ?_)
      have hne : tk ≠ i18 := fun e => (show x15 tk ≠ 0 by omega) (by rw [e]; exact hNe)
      rw [if_pos (by omega)] at hR
      unfold pTwo at hR
      refine j_aload_n d_Mod_readOrder_37 rfl ?_
      refine z_iconst d_Mod_readOrder_38 ?_
      refine v_call1 d_Mod_readOrder_39 c_Mod_178 rfl ⟨_, rfl, rfl⟩ (Nat.le_of_ble_eq_true rfl) (hS _ _ _ (by omega) (by omega) (by omega) (by omega) (fun ea2 ta2 la2 hF2 => ?_) (fun ta2 hF2 la2 => ?_))
      · obtain ⟨u12, u22, u32, u42⟩ := (hGS (tk + 1) lv (by omega) (by omega) (by omega) (by omega)).1 _ _ _ hF2
        have hck2 := hcd ta2 (by omega) (by omega)
        rw [hF2] at hR
        simp only at hR
        refine j_aload_n d_Mod_readOrder_42 rfl ?_
        refine z_bipush d_Mod_readOrder_43 (by decide) ?_
        refine v_call1 d_Mod_readOrder_45 c_Mod_182 rfl ⟨_, rfl, rfl⟩ (Nat.le_of_ble_eq_true rfl) (t_Mod_must hN0 hN1 hNe hcd (by omega) (by omega) (by omega) (fun h45 => ?_) (fun h45 => ?_))
        · have hnem : ta2 ≠ i18 := fun e => (show x15 ta2 ≠ 0 by omega) (by rw [e]; exact hNe)
          rw [if_pos (by omega)] at hR
          refine j_aload_n d_Mod_readOrder_48 rfl ?_
          refine z_iconst d_Mod_readOrder_49 ?_
          refine v_call1 d_Mod_readOrder_50 c_Mod_178 rfl ⟨_, rfl, rfl⟩ (Nat.le_of_ble_eq_true rfl) (hS _ _ _ (by omega) (by omega) (by omega) (by omega) (fun ea3 ta3 la3 hF3 => ?_) (fun ta3 hF3 la3 => ?_))
          · obtain ⟨u13, u23, u33, u43⟩ := (hGS (ta2 + 1) la2 (by omega) (by omega) (by omega) (by omega)).1 _ _ _ hF3
            have hck3 := hcd ta3 (by omega) (by omega)
            rw [hF3] at hR
            simp only at hR
            refine j_goto (t := 79) d_Mod_readOrder_53 (by decide) ?_
            unfold pTm at hR
            refine j_aload_n d_Mod_readOrder_79 rfl ?_
            refine z_bipush d_Mod_readOrder_80 (by decide) ?_
            refine v_call1 d_Mod_readOrder_82 c_Mod_169 rfl ⟨_, rfl, rfl⟩ (Nat.le_of_ble_eq_true rfl) (t_Mod_takes0 hN0 hN1 hNe hcd (by omega) (by omega) (by omega) (fun h82 => ?_) (fun h82 => ?_))
            · refine z_if_eq (t := 95) d_Mod_readOrder_85 (by decide) (by first | omega | exact hw _ | exact hx _ _ | assumption) (fun h => absurd h (by decide)) (fun _ => ?_)
              rw [if_pos (by omega)] at hR
              have hnec : ta3 ≠ i18 := fun e => (show x15 ta3 ≠ 0 by omega) (by rw [e]; exact hNe)
              have hckc := hcd (ta3 + 1) (by omega) (by omega)
              obtain ⟨hbc, hbc2⟩ := hckc.2.2
              refine j_aload_n d_Mod_readOrder_88 rfl ?_
              refine z_iconst d_Mod_readOrder_89 ?_
              refine z_bipush d_Mod_readOrder_90 (by decide) ?_
              refine v_call2 d_Mod_readOrder_92 c_Mod_188 rfl ⟨_, rfl, rfl⟩ (Nat.le_of_ble_eq_true rfl) (t_Mod_mustNumber hN0 hN1 hNe hcd (by omega) (by omega) (by omega) (by omega) (fun h92 => ?_) (fun h92 => ?_))
              · rw [if_pos (by omega)] at hR
                unfold pTail at hR
                rw [show ta3 + 2 = ta3 + 1 + 1 by omega] at hR
                have hned : ta3 + 1 ≠ i18 := fun e => (show x15 (ta3 + 1) ≠ 0 by omega) (by rw [e]; exact hNe)
                have hckd := hcd (ta3 + 1 + 1) (by omega) (by omega)
                refine j_aload_n d_Mod_readOrder_95 rfl ?_
                refine z_iconst d_Mod_readOrder_96 ?_
                refine v_call1 d_Mod_readOrder_97 c_Mod_169 rfl ⟨_, rfl, rfl⟩ (Nat.le_of_ble_eq_true rfl) (t_Mod_takes0 hN0 hN1 hNe hcd (by omega) (by omega) (by omega) (fun h97 => ?_) (fun h97 => ?_))
                · refine z_if_eq (t := 108) d_Mod_readOrder_100 (by decide) (by first | omega | exact hw _ | exact hx _ _ | assumption) (fun h => absurd h (by decide)) (fun _ => ?_)
                  rw [if_pos (by omega)] at hR
                  have hneb : (ta3 + 1 + 1) ≠ i18 := fun e => (show x15 (ta3 + 1 + 1) ≠ 0 by omega) (by rw [e]; exact hNe)
                  refine j_aload_n d_Mod_readOrder_103 rfl ?_
                  refine z_iconst d_Mod_readOrder_104 ?_
                  refine v_call1 d_Mod_readOrder_105 c_Mod_185 rfl ⟨_, rfl, rfl⟩ (Nat.le_of_ble_eq_true rfl) (hT _ _ _ (by omega) (by omega) (by omega) (by omega) (fun ea9 ta9 la9 hF9 => ?_) (fun ta9 hF9 la9 => ?_))
                  · rw [hF9] at hR
                    simp only at hR
                    exact j_return rfl d_Mod_readOrder_108 (hok _ _ _ hR.symm)
                  · rw [hF9] at hR
                    simp only at hR
                    exact j_return rfl d_Mod_readOrder_108 (her _ hR.symm _)
                · refine z_if_eq (t := 108) d_Mod_readOrder_100 (by decide) (by first | omega | exact hw _ | exact hx _ _ | assumption) (fun _ => ?_) (fun h => absurd h (by decide))
                  rw [if_neg (by omega)] at hR
                  exact j_return rfl d_Mod_readOrder_108 (hok _ _ _ hR.symm)
              · rw [if_neg (by omega)] at hR
                have hbz := hbc
                have hbz2 := hbc2
                refine j_aload_n d_Mod_readOrder_95 rfl ?_
                refine z_iconst d_Mod_readOrder_96 ?_
                refine v_call1 d_Mod_readOrder_97 c_Mod_169 rfl ⟨_, rfl, rfl⟩ (Nat.le_of_ble_eq_true rfl) (b_Mod_takes0 hbz hbz2 ?_)
                refine z_if_eq (t := 108) d_Mod_readOrder_100 (by decide) (by first | omega | exact hw _ | exact hx _ _ | assumption) (fun _ => ?_) (fun h => absurd h (by decide))
                exact j_return rfl d_Mod_readOrder_108 (her _ hR.symm _)
            · refine z_if_eq (t := 95) d_Mod_readOrder_85 (by decide) (by first | omega | exact hw _ | exact hx _ _ | assumption) (fun _ => ?_) (fun h => absurd h (by decide))
              rw [if_neg (by omega)] at hR
              unfold pTail at hR
              refine j_aload_n d_Mod_readOrder_95 rfl ?_
              refine z_iconst d_Mod_readOrder_96 ?_
              refine v_call1 d_Mod_readOrder_97 c_Mod_169 rfl ⟨_, rfl, rfl⟩ (Nat.le_of_ble_eq_true rfl) (t_Mod_takes0 hN0 hN1 hNe hcd (by omega) (by omega) (by omega) (fun h97 => ?_) (fun h97 => ?_))
              · refine z_if_eq (t := 108) d_Mod_readOrder_100 (by decide) (by first | omega | exact hw _ | exact hx _ _ | assumption) (fun h => absurd h (by decide)) (fun _ => ?_)
                rw [if_pos (by omega)] at hR
                have hneb : ta3 ≠ i18 := fun e => (show x15 ta3 ≠ 0 by omega) (by rw [e]; exact hNe)
                refine j_aload_n d_Mod_readOrder_103 rfl ?_
                refine z_iconst d_Mod_readOrder_104 ?_
                refine v_call1 d_Mod_readOrder_105 c_Mod_185 rfl ⟨_, rfl, rfl⟩ (Nat.le_of_ble_eq_true rfl) (hT _ _ _ (by omega) (by omega) (by omega) (by omega) (fun ea9 ta9 la9 hF9 => ?_) (fun ta9 hF9 la9 => ?_))
                · rw [hF9] at hR
                  simp only at hR
                  exact j_return rfl d_Mod_readOrder_108 (hok _ _ _ hR.symm)
                · rw [hF9] at hR
                  simp only at hR
                  exact j_return rfl d_Mod_readOrder_108 (her _ hR.symm _)
              · refine z_if_eq (t := 108) d_Mod_readOrder_100 (by decide) (by first | omega | exact hw _ | exact hx _ _ | assumption) (fun _ => ?_) (fun h => absurd h (by decide))
                rw [if_neg (by omega)] at hR
                exact j_return rfl d_Mod_readOrder_108 (hok _ _ _ hR.symm)
          · obtain ⟨u13, u23⟩ := (hGS (ta2 + 1) la2 (by omega) (by omega) (by omega) (by omega)).2 _ hF3
            have hck3 := hcd ta3 (by omega) (by omega)
            obtain ⟨hbz, hbz2⟩ := hck3.2.2
            rw [hF3] at hR
            simp only at hR
            refine j_goto (t := 79) d_Mod_readOrder_53 (by decide) ?_
            refine j_aload_n d_Mod_readOrder_79 rfl ?_
            refine z_bipush d_Mod_readOrder_80 (by decide) ?_
            refine v_call1 d_Mod_readOrder_82 c_Mod_169 rfl ⟨_, rfl, rfl⟩ (Nat.le_of_ble_eq_true rfl) (b_Mod_takes0 hbz hbz2 ?_)
            refine z_if_eq (t := 95) d_Mod_readOrder_85 (by decide) (by first | omega | exact hw _ | exact hx _ _ | assumption) (fun _ => ?_) (fun h => absurd h (by decide))
            refine j_aload_n d_Mod_readOrder_95 rfl ?_
            refine z_iconst d_Mod_readOrder_96 ?_
            refine v_call1 d_Mod_readOrder_97 c_Mod_169 rfl ⟨_, rfl, rfl⟩ (Nat.le_of_ble_eq_true rfl) (b_Mod_takes0 hbz hbz2 ?_)
            refine z_if_eq (t := 108) d_Mod_readOrder_100 (by decide) (by first | omega | exact hw _ | exact hx _ _ | assumption) (fun _ => ?_) (fun h => absurd h (by decide))
            exact j_return rfl d_Mod_readOrder_108 (her _ hR.symm _)
        · rw [if_neg (by omega)] at hR
          obtain ⟨hbz, hbz2⟩ := hck2.2.2
          refine j_aload_n d_Mod_readOrder_48 rfl ?_
          refine z_iconst d_Mod_readOrder_49 ?_
          refine v_call1 d_Mod_readOrder_50 c_Mod_178 rfl ⟨_, rfl, rfl⟩ (Nat.le_of_ble_eq_true rfl) (b_Mod_readSum hbz hbz2 ?_)
          refine j_goto (t := 79) d_Mod_readOrder_53 (by decide) ?_
          refine j_aload_n d_Mod_readOrder_79 rfl ?_
          refine z_bipush d_Mod_readOrder_80 (by decide) ?_
          refine v_call1 d_Mod_readOrder_82 c_Mod_169 rfl ⟨_, rfl, rfl⟩ (Nat.le_of_ble_eq_true rfl) (b_Mod_takes0 hbz hbz2 ?_)
          refine z_if_eq (t := 95) d_Mod_readOrder_85 (by decide) (by first | omega | exact hw _ | exact hx _ _ | assumption) (fun _ => ?_) (fun h => absurd h (by decide))
          refine j_aload_n d_Mod_readOrder_95 rfl ?_
          refine z_iconst d_Mod_readOrder_96 ?_
          refine v_call1 d_Mod_readOrder_97 c_Mod_169 rfl ⟨_, rfl, rfl⟩ (Nat.le_of_ble_eq_true rfl) (b_Mod_takes0 hbz hbz2 ?_)
          refine z_if_eq (t := 108) d_Mod_readOrder_100 (by decide) (by first | omega | exact hw _ | exact hx _ _ | assumption) (fun _ => ?_) (fun h => absurd h (by decide))
          exact j_return rfl d_Mod_readOrder_108 (her _ hR.symm _)
      · obtain ⟨u12, u22⟩ := (hGS (tk + 1) lv (by omega) (by omega) (by omega) (by omega)).2 _ hF2
        have hck2 := hcd ta2 (by omega) (by omega)
        obtain ⟨hbz, hbz2⟩ := hck2.2.2
        rw [hF2] at hR
        simp only at hR
        refine j_aload_n d_Mod_readOrder_42 rfl ?_
        refine z_bipush d_Mod_readOrder_43 (by decide) ?_
        refine v_call1 d_Mod_readOrder_45 c_Mod_182 rfl ⟨_, rfl, rfl⟩ (Nat.le_of_ble_eq_true rfl) (b_Mod_must hbz hbz2 ?_)
        refine j_aload_n d_Mod_readOrder_48 rfl ?_
        refine z_iconst d_Mod_readOrder_49 ?_
        refine v_call1 d_Mod_readOrder_50 c_Mod_178 rfl ⟨_, rfl, rfl⟩ (Nat.le_of_ble_eq_true rfl) (b_Mod_readSum hbz hbz2 ?_)
        refine j_goto (t := 79) d_Mod_readOrder_53 (by decide) ?_
        refine j_aload_n d_Mod_readOrder_79 rfl ?_
        refine z_bipush d_Mod_readOrder_80 (by decide) ?_
        refine v_call1 d_Mod_readOrder_82 c_Mod_169 rfl ⟨_, rfl, rfl⟩ (Nat.le_of_ble_eq_true rfl) (b_Mod_takes0 hbz hbz2 ?_)
        refine z_if_eq (t := 95) d_Mod_readOrder_85 (by decide) (by first | omega | exact hw _ | exact hx _ _ | assumption) (fun _ => ?_) (fun h => absurd h (by decide))
        refine j_aload_n d_Mod_readOrder_95 rfl ?_
        refine z_iconst d_Mod_readOrder_96 ?_
        refine v_call1 d_Mod_readOrder_97 c_Mod_169 rfl ⟨_, rfl, rfl⟩ (Nat.le_of_ble_eq_true rfl) (b_Mod_takes0 hbz hbz2 ?_)
        refine z_if_eq (t := 108) d_Mod_readOrder_100 (by decide) (by first | omega | exact hw _ | exact hx _ _ | assumption) (fun _ => ?_) (fun h => absurd h (by decide))
        exact j_return rfl d_Mod_readOrder_108 (her _ hR.symm _)
    · refine z_if_eq (t := 56) d_Mod_readOrder_34 (by decide) (by first | omega | exact hw _ | exact hx _ _ | assumption) (fun _ => ?_) (fun h => absurd h (by decide))
      rw [if_neg (by omega)] at hR
      refine j_aload_n d_Mod_readOrder_56 rfl ?_
      refine z_bipush d_Mod_readOrder_57 (by decide) ?_
      refine v_call1 d_Mod_readOrder_59 c_Mod_169 rfl ⟨_, rfl, rfl⟩ (Nat.le_of_ble_eq_true rfl) (t_Mod_takes0 hN0 hN1 hNe hcd (by omega) (by omega) (by omega) (fun h59 => ?_) (fun h59 => ?_))
      · refine z_if_eq (t := 73) d_Mod_readOrder_62 (by decide) (by first | omega | exact hw _ | exact hx _ _ | assumption) (fun h => absurd h (by decide)) (fun _ => ?_)
        have hne : tk ≠ i18 := fun e => (show x15 tk ≠ 0 by omega) (by rw [e]; exact hNe)
        rw [if_pos (by omega)] at hR
        refine j_aload_n d_Mod_readOrder_65 rfl ?_
        refine z_iconst d_Mod_readOrder_66 ?_
        refine v_call1 d_Mod_readOrder_67 c_Mod_178 rfl ⟨_, rfl, rfl⟩ (Nat.le_of_ble_eq_true rfl) (hS _ _ _ (by omega) (by omega) (by omega) (by omega) (fun ea4 ta4 la4 hF4 => ?_) (fun ta4 hF4 la4 => ?_))
        · obtain ⟨u14, u24, u34, u44⟩ := (hGS (tk + 1) lv (by omega) (by omega) (by omega) (by omega)).1 _ _ _ hF4
          have hck4 := hcd ta4 (by omega) (by omega)
          rw [hF4] at hR
          simp only at hR
          refine j_goto (t := 79) d_Mod_readOrder_70 (by decide) ?_
          unfold pTm at hR
          refine j_aload_n d_Mod_readOrder_79 rfl ?_
          refine z_bipush d_Mod_readOrder_80 (by decide) ?_
          refine v_call1 d_Mod_readOrder_82 c_Mod_169 rfl ⟨_, rfl, rfl⟩ (Nat.le_of_ble_eq_true rfl) (t_Mod_takes0 hN0 hN1 hNe hcd (by omega) (by omega) (by omega) (fun h82 => ?_) (fun h82 => ?_))
          · refine z_if_eq (t := 95) d_Mod_readOrder_85 (by decide) (by first | omega | exact hw _ | exact hx _ _ | assumption) (fun h => absurd h (by decide)) (fun _ => ?_)
            rw [if_pos (by omega)] at hR
            have hnec : ta4 ≠ i18 := fun e => (show x15 ta4 ≠ 0 by omega) (by rw [e]; exact hNe)
            have hckc := hcd (ta4 + 1) (by omega) (by omega)
            obtain ⟨hbc, hbc2⟩ := hckc.2.2
            refine j_aload_n d_Mod_readOrder_88 rfl ?_
            refine z_iconst d_Mod_readOrder_89 ?_
            refine z_bipush d_Mod_readOrder_90 (by decide) ?_
            refine v_call2 d_Mod_readOrder_92 c_Mod_188 rfl ⟨_, rfl, rfl⟩ (Nat.le_of_ble_eq_true rfl) (t_Mod_mustNumber hN0 hN1 hNe hcd (by omega) (by omega) (by omega) (by omega) (fun h92 => ?_) (fun h92 => ?_))
            · rw [if_pos (by omega)] at hR
              unfold pTail at hR
              rw [show ta4 + 2 = ta4 + 1 + 1 by omega] at hR
              have hned : ta4 + 1 ≠ i18 := fun e => (show x15 (ta4 + 1) ≠ 0 by omega) (by rw [e]; exact hNe)
              have hckd := hcd (ta4 + 1 + 1) (by omega) (by omega)
              refine j_aload_n d_Mod_readOrder_95 rfl ?_
              refine z_iconst d_Mod_readOrder_96 ?_
              refine v_call1 d_Mod_readOrder_97 c_Mod_169 rfl ⟨_, rfl, rfl⟩ (Nat.le_of_ble_eq_true rfl) (t_Mod_takes0 hN0 hN1 hNe hcd (by omega) (by omega) (by omega) (fun h97 => ?_) (fun h97 => ?_))
              · refine z_if_eq (t := 108) d_Mod_readOrder_100 (by decide) (by first | omega | exact hw _ | exact hx _ _ | assumption) (fun h => absurd h (by decide)) (fun _ => ?_)
                rw [if_pos (by omega)] at hR
                have hneb : (ta4 + 1 + 1) ≠ i18 := fun e => (show x15 (ta4 + 1 + 1) ≠ 0 by omega) (by rw [e]; exact hNe)
                refine j_aload_n d_Mod_readOrder_103 rfl ?_
                refine z_iconst d_Mod_readOrder_104 ?_
                refine v_call1 d_Mod_readOrder_105 c_Mod_185 rfl ⟨_, rfl, rfl⟩ (Nat.le_of_ble_eq_true rfl) (hT _ _ _ (by omega) (by omega) (by omega) (by omega) (fun ea9 ta9 la9 hF9 => ?_) (fun ta9 hF9 la9 => ?_))
                · rw [hF9] at hR
                  simp only at hR
                  exact j_return rfl d_Mod_readOrder_108 (hok _ _ _ hR.symm)
                · rw [hF9] at hR
                  simp only at hR
                  exact j_return rfl d_Mod_readOrder_108 (her _ hR.symm _)
              · refine z_if_eq (t := 108) d_Mod_readOrder_100 (by decide) (by first | omega | exact hw _ | exact hx _ _ | assumption) (fun _ => ?_) (fun h => absurd h (by decide))
                rw [if_neg (by omega)] at hR
                exact j_return rfl d_Mod_readOrder_108 (hok _ _ _ hR.symm)
            · rw [if_neg (by omega)] at hR
              have hbz := hbc
              have hbz2 := hbc2
              refine j_aload_n d_Mod_readOrder_95 rfl ?_
              refine z_iconst d_Mod_readOrder_96 ?_
              refine v_call1 d_Mod_readOrder_97 c_Mod_169 rfl ⟨_, rfl, rfl⟩ (Nat.le_of_ble_eq_true rfl) (b_Mod_takes0 hbz hbz2 ?_)
              refine z_if_eq (t := 108) d_Mod_readOrder_100 (by decide) (by first | omega | exact hw _ | exact hx _ _ | assumption) (fun _ => ?_) (fun h => absurd h (by decide))
              exact j_return rfl d_Mod_readOrder_108 (her _ hR.symm _)
          · refine z_if_eq (t := 95) d_Mod_readOrder_85 (by decide) (by first | omega | exact hw _ | exact hx _ _ | assumption) (fun _ => ?_) (fun h => absurd h (by decide))
            rw [if_neg (by omega)] at hR
            unfold pTail at hR
            refine j_aload_n d_Mod_readOrder_95 rfl ?_
            refine z_iconst d_Mod_readOrder_96 ?_
            refine v_call1 d_Mod_readOrder_97 c_Mod_169 rfl ⟨_, rfl, rfl⟩ (Nat.le_of_ble_eq_true rfl) (t_Mod_takes0 hN0 hN1 hNe hcd (by omega) (by omega) (by omega) (fun h97 => ?_) (fun h97 => ?_))
            · refine z_if_eq (t := 108) d_Mod_readOrder_100 (by decide) (by first | omega | exact hw _ | exact hx _ _ | assumption) (fun h => absurd h (by decide)) (fun _ => ?_)
              rw [if_pos (by omega)] at hR
              have hneb : ta4 ≠ i18 := fun e => (show x15 ta4 ≠ 0 by omega) (by rw [e]; exact hNe)
              refine j_aload_n d_Mod_readOrder_103 rfl ?_
              refine z_iconst d_Mod_readOrder_104 ?_
              refine v_call1 d_Mod_readOrder_105 c_Mod_185 rfl ⟨_, rfl, rfl⟩ (Nat.le_of_ble_eq_true rfl) (hT _ _ _ (by omega) (by omega) (by omega) (by omega) (fun ea9 ta9 la9 hF9 => ?_) (fun ta9 hF9 la9 => ?_))
              · rw [hF9] at hR
                simp only at hR
                exact j_return rfl d_Mod_readOrder_108 (hok _ _ _ hR.symm)
              · rw [hF9] at hR
                simp only at hR
                exact j_return rfl d_Mod_readOrder_108 (her _ hR.symm _)
            · refine z_if_eq (t := 108) d_Mod_readOrder_100 (by decide) (by first | omega | exact hw _ | exact hx _ _ | assumption) (fun _ => ?_) (fun h => absurd h (by decide))
              rw [if_neg (by omega)] at hR
              exact j_return rfl d_Mod_readOrder_108 (hok _ _ _ hR.symm)
        · obtain ⟨u14, u24⟩ := (hGS (tk + 1) lv (by omega) (by omega) (by omega) (by omega)).2 _ hF4
          have hck4 := hcd ta4 (by omega) (by omega)
          obtain ⟨hbz, hbz2⟩ := hck4.2.2
          rw [hF4] at hR
          simp only at hR
          refine j_goto (t := 79) d_Mod_readOrder_70 (by decide) ?_
          refine j_aload_n d_Mod_readOrder_79 rfl ?_
          refine z_bipush d_Mod_readOrder_80 (by decide) ?_
          refine v_call1 d_Mod_readOrder_82 c_Mod_169 rfl ⟨_, rfl, rfl⟩ (Nat.le_of_ble_eq_true rfl) (b_Mod_takes0 hbz hbz2 ?_)
          refine z_if_eq (t := 95) d_Mod_readOrder_85 (by decide) (by first | omega | exact hw _ | exact hx _ _ | assumption) (fun _ => ?_) (fun h => absurd h (by decide))
          refine j_aload_n d_Mod_readOrder_95 rfl ?_
          refine z_iconst d_Mod_readOrder_96 ?_
          refine v_call1 d_Mod_readOrder_97 c_Mod_169 rfl ⟨_, rfl, rfl⟩ (Nat.le_of_ble_eq_true rfl) (b_Mod_takes0 hbz hbz2 ?_)
          refine z_if_eq (t := 108) d_Mod_readOrder_100 (by decide) (by first | omega | exact hw _ | exact hx _ _ | assumption) (fun _ => ?_) (fun h => absurd h (by decide))
          exact j_return rfl d_Mod_readOrder_108 (her _ hR.symm _)
      · refine z_if_eq (t := 73) d_Mod_readOrder_62 (by decide) (by first | omega | exact hw _ | exact hx _ _ | assumption) (fun _ => ?_) (fun h => absurd h (by decide))
        rw [if_neg (by omega)] at hR
        refine j_aload_n d_Mod_readOrder_73 rfl ?_
        refine z_bipush d_Mod_readOrder_74 (by decide) ?_
        refine v_call1 d_Mod_readOrder_76 c_Mod_182 rfl ⟨_, rfl, rfl⟩ (Nat.le_of_ble_eq_true rfl) (t_Mod_must hN0 hN1 hNe hcd (by omega) (by omega) (by omega) (fun h76 => ?_) (fun h76 => ?_))
        · have hne : tk ≠ i18 := fun e => (show x15 tk ≠ 0 by omega) (by rw [e]; exact hNe)
          rw [if_pos (by omega)] at hR
          unfold pTm at hR
          have hck1 := hcd (tk + 1) (by omega) (by omega)
          refine j_aload_n d_Mod_readOrder_79 rfl ?_
          refine z_bipush d_Mod_readOrder_80 (by decide) ?_
          refine v_call1 d_Mod_readOrder_82 c_Mod_169 rfl ⟨_, rfl, rfl⟩ (Nat.le_of_ble_eq_true rfl) (t_Mod_takes0 hN0 hN1 hNe hcd (by omega) (by omega) (by omega) (fun h82 => ?_) (fun h82 => ?_))
          · refine z_if_eq (t := 95) d_Mod_readOrder_85 (by decide) (by first | omega | exact hw _ | exact hx _ _ | assumption) (fun h => absurd h (by decide)) (fun _ => ?_)
            rw [if_pos (by omega)] at hR
            have hnec : (tk + 1) ≠ i18 := fun e => (show x15 (tk + 1) ≠ 0 by omega) (by rw [e]; exact hNe)
            have hckc := hcd ((tk + 1) + 1) (by omega) (by omega)
            obtain ⟨hbc, hbc2⟩ := hckc.2.2
            refine j_aload_n d_Mod_readOrder_88 rfl ?_
            refine z_iconst d_Mod_readOrder_89 ?_
            refine z_bipush d_Mod_readOrder_90 (by decide) ?_
            refine v_call2 d_Mod_readOrder_92 c_Mod_188 rfl ⟨_, rfl, rfl⟩ (Nat.le_of_ble_eq_true rfl) (t_Mod_mustNumber hN0 hN1 hNe hcd (by omega) (by omega) (by omega) (by omega) (fun h92 => ?_) (fun h92 => ?_))
            · rw [if_pos (by omega)] at hR
              unfold pTail at hR
              rw [show (tk + 1) + 2 = (tk + 1) + 1 + 1 by omega] at hR
              have hned : (tk + 1) + 1 ≠ i18 := fun e => (show x15 ((tk + 1) + 1) ≠ 0 by omega) (by rw [e]; exact hNe)
              have hckd := hcd ((tk + 1) + 1 + 1) (by omega) (by omega)
              refine j_aload_n d_Mod_readOrder_95 rfl ?_
              refine z_iconst d_Mod_readOrder_96 ?_
              refine v_call1 d_Mod_readOrder_97 c_Mod_169 rfl ⟨_, rfl, rfl⟩ (Nat.le_of_ble_eq_true rfl) (t_Mod_takes0 hN0 hN1 hNe hcd (by omega) (by omega) (by omega) (fun h97 => ?_) (fun h97 => ?_))
              · refine z_if_eq (t := 108) d_Mod_readOrder_100 (by decide) (by first | omega | exact hw _ | exact hx _ _ | assumption) (fun h => absurd h (by decide)) (fun _ => ?_)
                rw [if_pos (by omega)] at hR
                have hneb : ((tk + 1) + 1 + 1) ≠ i18 := fun e => (show x15 ((tk + 1) + 1 + 1) ≠ 0 by omega) (by rw [e]; exact hNe)
                refine j_aload_n d_Mod_readOrder_103 rfl ?_
                refine z_iconst d_Mod_readOrder_104 ?_
                refine v_call1 d_Mod_readOrder_105 c_Mod_185 rfl ⟨_, rfl, rfl⟩ (Nat.le_of_ble_eq_true rfl) (hT _ _ _ (by omega) (by omega) (by omega) (by omega) (fun ea9 ta9 la9 hF9 => ?_) (fun ta9 hF9 la9 => ?_))
                · rw [hF9] at hR
                  simp only at hR
                  exact j_return rfl d_Mod_readOrder_108 (hok _ _ _ hR.symm)
                · rw [hF9] at hR
                  simp only at hR
                  exact j_return rfl d_Mod_readOrder_108 (her _ hR.symm _)
              · refine z_if_eq (t := 108) d_Mod_readOrder_100 (by decide) (by first | omega | exact hw _ | exact hx _ _ | assumption) (fun _ => ?_) (fun h => absurd h (by decide))
                rw [if_neg (by omega)] at hR
                exact j_return rfl d_Mod_readOrder_108 (hok _ _ _ hR.symm)
            · rw [if_neg (by omega)] at hR
              have hbz := hbc
              have hbz2 := hbc2
              refine j_aload_n d_Mod_readOrder_95 rfl ?_
              refine z_iconst d_Mod_readOrder_96 ?_
              refine v_call1 d_Mod_readOrder_97 c_Mod_169 rfl ⟨_, rfl, rfl⟩ (Nat.le_of_ble_eq_true rfl) (b_Mod_takes0 hbz hbz2 ?_)
              refine z_if_eq (t := 108) d_Mod_readOrder_100 (by decide) (by first | omega | exact hw _ | exact hx _ _ | assumption) (fun _ => ?_) (fun h => absurd h (by decide))
              exact j_return rfl d_Mod_readOrder_108 (her _ hR.symm _)
          · refine z_if_eq (t := 95) d_Mod_readOrder_85 (by decide) (by first | omega | exact hw _ | exact hx _ _ | assumption) (fun _ => ?_) (fun h => absurd h (by decide))
            rw [if_neg (by omega)] at hR
            unfold pTail at hR
            refine j_aload_n d_Mod_readOrder_95 rfl ?_
            refine z_iconst d_Mod_readOrder_96 ?_
            refine v_call1 d_Mod_readOrder_97 c_Mod_169 rfl ⟨_, rfl, rfl⟩ (Nat.le_of_ble_eq_true rfl) (t_Mod_takes0 hN0 hN1 hNe hcd (by omega) (by omega) (by omega) (fun h97 => ?_) (fun h97 => ?_))
            · refine z_if_eq (t := 108) d_Mod_readOrder_100 (by decide) (by first | omega | exact hw _ | exact hx _ _ | assumption) (fun h => absurd h (by decide)) (fun _ => ?_)
              rw [if_pos (by omega)] at hR
              have hneb : (tk + 1) ≠ i18 := fun e => (show x15 (tk + 1) ≠ 0 by omega) (by rw [e]; exact hNe)
              refine j_aload_n d_Mod_readOrder_103 rfl ?_
              refine z_iconst d_Mod_readOrder_104 ?_
              refine v_call1 d_Mod_readOrder_105 c_Mod_185 rfl ⟨_, rfl, rfl⟩ (Nat.le_of_ble_eq_true rfl) (hT _ _ _ (by omega) (by omega) (by omega) (by omega) (fun ea9 ta9 la9 hF9 => ?_) (fun ta9 hF9 la9 => ?_))
              · rw [hF9] at hR
                simp only at hR
                exact j_return rfl d_Mod_readOrder_108 (hok _ _ _ hR.symm)
              · rw [hF9] at hR
                simp only at hR
                exact j_return rfl d_Mod_readOrder_108 (her _ hR.symm _)
            · refine z_if_eq (t := 108) d_Mod_readOrder_100 (by decide) (by first | omega | exact hw _ | exact hx _ _ | assumption) (fun _ => ?_) (fun h => absurd h (by decide))
              rw [if_neg (by omega)] at hR
              exact j_return rfl d_Mod_readOrder_108 (hok _ _ _ hR.symm)
        · rw [if_neg (by omega)] at hR
          obtain ⟨hbz, hbz2⟩ := hck.2.2
          refine j_aload_n d_Mod_readOrder_79 rfl ?_
          refine z_bipush d_Mod_readOrder_80 (by decide) ?_
          refine v_call1 d_Mod_readOrder_82 c_Mod_169 rfl ⟨_, rfl, rfl⟩ (Nat.le_of_ble_eq_true rfl) (b_Mod_takes0 hbz hbz2 ?_)
          refine z_if_eq (t := 95) d_Mod_readOrder_85 (by decide) (by first | omega | exact hw _ | exact hx _ _ | assumption) (fun _ => ?_) (fun h => absurd h (by decide))
          refine j_aload_n d_Mod_readOrder_95 rfl ?_
          refine z_iconst d_Mod_readOrder_96 ?_
          refine v_call1 d_Mod_readOrder_97 c_Mod_169 rfl ⟨_, rfl, rfl⟩ (Nat.le_of_ble_eq_true rfl) (b_Mod_takes0 hbz hbz2 ?_)
          refine z_if_eq (t := 108) d_Mod_readOrder_100 (by decide) (by first | omega | exact hw _ | exact hx _ _ | assumption) (fun _ => ?_) (fun h => absurd h (by decide))
          exact j_return rfl d_Mod_readOrder_108 (her _ hR.symm _)
theorem t_Mod_readOne {g : Bool} {d : Nat} {Q : List xM → Option Value → Prop} {i0 i6 i8 i9 i10 i13 i14 i18 i22 i23 i24 i25 i27 i28 i33 i42 i43 i44 i45 i46 i47 i48 i51 i52 : Int} {x1 x2 x3 x4 x5 x7 x11 x12 x15 x16 x17 x26 x29 x30 x31 x32 x34 x35 x36 x37 x38 x39 x40 x41 x49 x50 : Int → Int} (hN0 : 0 ≤ i18) (hN1 : i18 ≤ 400) (hNe : x15 i18 = 0) (hcd : ∀ j, 0 ≤ j → j ≤ i18 → (0 ≤ x15 j ∧ x15 j ≤ 400) ∧ (0 ≤ x16 j ∧ x16 j ≤ 100000000) ∧ (0 ≤ x17 j ∧ x17 j ≤ 400)) (hio : i8 = 9 ∧ i9 = 16 ∧ i10 = 0 ∨ i8 = 14 ∧ i9 = 20 ∧ i10 = 1) {FS : Int → Int → PR SXC} {FT : Int → Int → PR TXC} (hS : MR g m_Mod_readSum (d + 33) 0 i0 i6 i8 i9 i10 i13 i14 i18 i22 i23 i24 i25 i27 i28 i33 i42 i43 i44 i45 i46 i47 i48 i51 i52 x1 x2 x3 x4 x5 x7 x11 x12 x15 x16 x17 x26 x29 x30 x31 x32 x34 x35 x36 x37 x38 x39 x40 x41 x49 x50 FS) (hT : MR g m_Mod_readTest (d + 33) 0 i0 i6 i8 i9 i10 i13 i14 i18 i22 i23 i24 i25 i27 i28 i33 i42 i43 i44 i45 i46 i47 i48 i51 i52 x1 x2 x3 x4 x5 x7 x11 x12 x15 x16 x17 x26 x29 x30 x31 x32 x34 x35 x36 x37 x38 x39 x40 x41 x49 x50 FT) (hGS : GP i18 FS) (hGT : GP i18 FT) {tk lv : Int} (k0 : 0 ≤ tk) (k1 : tk ≤ i18) (v0 : 0 ≤ lv) (v1 : lv ≤ 50) (hok : ∀ a t l, (if i10 = 1 then pOrd x15 x16 FS FT tk lv else pLaw x15 FS FT tk lv) = .inl (a, t, l) → Q (MM i0 i6 i8 i9 i10 i13 i14 i18 t l (-1) i22 i23 i24 i25 i27 i28 i33 i42 i43 i44 i45 i46 i47 i48 i51 i52 x1 x2 x3 x4 x5 x7 x11 x12 x15 x16 x17 x26 x29 x30 x31 x32 x34 x35 x36 x37 x38 x39 x40 x41 x49 x50) none) (her : ∀ t, (if i10 = 1 then pOrd x15 x16 FS FT tk lv else pLaw x15 FS FT tk lv) = .inr t → ∀ l, Q (MM i0 i6 i8 i9 i10 i13 i14 i18 t l (x17 t) i22 i23 i24 i25 i27 i28 i33 i42 i43 i44 i45 i46 i47 i48 i51 i52 x1 x2 x3 x4 x5 x7 x11 x12 x15 x16 x17 x26 x29 x30 x31 x32 x34 x35 x36 x37 x38 x39 x40 x41 x49 x50) none)  : CT g m_Mod_readOne (d + 35) [.ref 0] (MM i0 i6 i8 i9 i10 i13 i14 i18 tk lv (-1) i22 i23 i24 i25 i27 i28 i33 i42 i43 i44 i45 i46 i47 i48 i51 i52 x1 x2 x3 x4 x5 x7 x11 x12 x15 x16 x17 x26 x29 x30 x31 x32 x34 x35 x36 x37 x38 x39 x40 x41 x49 x50) 0 0 Q := by
  refine CT.of (by decide) (Nat.le_of_ble_eq_true rfl) ?_
  show SJ _ _ _ _ [some (.ref 0)] [] _ _ _ _
  refine j_aload_n d_Mod_readOne_0 rfl ?_
  refine mg_isOrders f_Mod_192 d_Mod_readOne_1 ?_
  refine z_if_eq (t := 14) d_Mod_readOne_4 (by decide) (by first | omega | exact hw _ | exact hx _ _ | assumption) (fun h4 => ?_) (fun h4 => ?_)
  · have e10 : ¬ i10 = 1 := by omega
    rw [if_neg e10] at hok her
    refine j_aload_n d_Mod_readOne_14 rfl ?_
    refine v_call0 d_Mod_readOne_15 c_Mod_199 rfl ⟨_, rfl, rfl⟩ (Nat.le_of_ble_eq_true rfl) (t_Mod_readClause hN0 hN1 hNe hcd hS hT hGS hGT k0 k1 v0 v1 (fun a t l hz => ?_) (fun t hz l => ?_))
    · exact j_return rfl d_Mod_readOne_18 (hok _ _ _ hz)
    · exact j_return rfl d_Mod_readOne_18 (her _ hz _)
  · have e10 : i10 = 1 := by omega
    rw [if_pos e10] at hok her
    refine j_aload_n d_Mod_readOne_7 rfl ?_
    refine v_call0 d_Mod_readOne_8 c_Mod_196 rfl ⟨_, rfl, rfl⟩ (Nat.le_of_ble_eq_true rfl) (t_Mod_readOrder hN0 hN1 hNe hcd hS hT hGS hGT k0 k1 v0 v1 (fun a t l hz => ?_) (fun t hz l => ?_))
    · refine j_goto (t := 18) d_Mod_readOne_11 (by decide) ?_
      exact j_return rfl d_Mod_readOne_18 (hok _ _ _ hz)
    · refine j_goto (t := 18) d_Mod_readOne_11 (by decide) ?_
      exact j_return rfl d_Mod_readOne_18 (her _ hz _)
theorem oneReads {g : Bool} {d : Nat} {i0 i6 i8 i9 i10 i13 i14 i18 i22 i23 i24 i25 i27 i28 i33 i42 i43 i44 i45 i46 i47 i48 i51 i52 : Int} {x1 x2 x3 x4 x5 x7 x11 x12 x15 x16 x17 x26 x29 x30 x31 x32 x34 x35 x36 x37 x38 x39 x40 x41 x49 x50 : Int → Int} (hN0 : 0 ≤ i18) (hN1 : i18 ≤ 400) (hNe : x15 i18 = 0) (hcd : ∀ j, 0 ≤ j → j ≤ i18 → (0 ≤ x15 j ∧ x15 j ≤ 400) ∧ (0 ≤ x16 j ∧ x16 j ≤ 100000000) ∧ (0 ≤ x17 j ∧ x17 j ≤ 400)) (hio : i8 = 9 ∧ i9 = 16 ∧ i10 = 0 ∨ i8 = 14 ∧ i9 = 20 ∧ i10 = 1) : MC g m_Mod_readOne (d + 35) i0 i6 i8 i9 i10 i13 i14 i18 i22 i23 i24 i25 i27 i28 i33 i42 i43 i44 i45 i46 i47 i48 i51 i52 x1 x2 x3 x4 x5 x7 x11 x12 x15 x16 x17 x26 x29 x30 x31 x32 x34 x35 x36 x37 x38 x39 x40 x41 x49 x50 (pOne x15 x16 i10 i8 i9) := by
  have hf : 0 < i8 := by omega
  have hS : MR g m_Mod_readSum (d + 33) 0 i0 i6 i8 i9 i10 i13 i14 i18 i22 i23 i24 i25 i27 i28 i33 i42 i43 i44 i45 i46 i47 i48 i51 i52 x1 x2 x3 x4 x5 x7 x11 x12 x15 x16 x17 x26 x29 x30 x31 x32 x34 x35 x36 x37 x38 x39 x40 x41 x49 x50 (pS x15 x16 i10 i8 i9 9) := sumsRead (g := g) (d := d + 3) hN0 hN1 hNe hcd hio 8 (by omega)
  have hT : MR g m_Mod_readTest (d + 33) 0 i0 i6 i8 i9 i10 i13 i14 i18 i22 i23 i24 i25 i27 i28 i33 i42 i43 i44 i45 i46 i47 i48 i51 i52 x1 x2 x3 x4 x5 x7 x11 x12 x15 x16 x17 x26 x29 x30 x31 x32 x34 x35 x36 x37 x38 x39 x40 x41 x49 x50 (pT x15 x16 i10 i8 i9 9) := testsRead (g := g) (d := d) hN0 hN1 hNe hcd hio 8 (by omega)
  intro tk lv Q k0 k1 v0 v1 hok her
  exact t_Mod_readOne hN0 hN1 hNe hcd hio hS hT (pS_R hNe hf 9) (pT_R hNe hf 9) k0 k1 v0 v1 hok her
