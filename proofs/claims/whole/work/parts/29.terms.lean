theorem lp_readTerm {g : Bool} {d : Nat} {Q : List xM → Option Value → Prop} {i0 i6 i8 i9 i10 i13 i14 i18 i22 i23 i24 i25 i27 i28 i33 i42 i43 i44 i45 i46 i47 i48 i51 i52 : Int} {x1 x2 x3 x4 x5 x7 x11 x12 x15 x16 x17 x26 x29 x30 x31 x32 x34 x35 x36 x37 x38 x39 x40 x41 x49 x50 : Int → Int} (hN0 : 0 ≤ i18) (hN1 : i18 ≤ 400) (hNe : x15 i18 = 0) (hcd : ∀ j, 0 ≤ j → j ≤ i18 → (0 ≤ x15 j ∧ x15 j ≤ 400) ∧ (0 ≤ x16 j ∧ x16 j ≤ 100000000) ∧ (0 ≤ x17 j ∧ x17 j ≤ 400)) {deep : Int} {FP : Int → Int → PR SXC} (hP : MR g m_Mod_readPart (d + 4) deep i0 i6 i8 i9 i10 i13 i14 i18 i22 i23 i24 i25 i27 i28 i33 i42 i43 i44 i45 i46 i47 i48 i51 i52 x1 x2 x3 x4 x5 x7 x11 x12 x15 x16 x17 x26 x29 x30 x31 x32 x34 x35 x36 x37 x38 x39 x40 x41 x49 x50 FP) (hG : GP i18 FP) {R : PR SXC} (hok : ∀ a t l, R = .inl (a, t, l) → Q (MM i0 i6 i8 i9 i10 i13 i14 i18 t l (-1) i22 i23 i24 i25 i27 i28 i33 i42 i43 i44 i45 i46 i47 i48 i51 i52 x1 x2 x3 x4 x5 x7 x11 x12 x15 x16 x17 x26 x29 x30 x31 x32 x34 x35 x36 x37 x38 x39 x40 x41 x49 x50) none) (her : ∀ t, R = .inr t → ∀ l, Q (MM i0 i6 i8 i9 i10 i13 i14 i18 t l (x17 t) i22 i23 i24 i25 i27 i28 i33 i42 i43 i44 i45 i46 i47 i48 i51 i52 x1 x2 x3 x4 x5 x7 x11 x12 x15 x16 x17 x26 x29 x30 x31 x32 x34 x35 x36 x37 x38 x39 x40 x41 x49 x50) none)  : ∀ (nn : Nat) (k : Nat) (ee : SXC) (tk : Int) (lv : Int), ((k : Int)).toNat = nn → 1 ≤ tk → tk ≤ i18 → 0 ≤ lv → lv ≤ 50 → i18 - tk < (k : Int) → pLp x15 FP isM bnX k ee tk lv = R → SJ g m_Mod_readTerm (d + 5) 5 [some (.ref 0), some (.int (ii deep))] [] (MM i0 i6 i8 i9 i10 i13 i14 i18 tk lv (-1) i22 i23 i24 i25 i27 i28 i33 i42 i43 i44 i45 i46 i47 i48 i51 i52 x1 x2 x3 x4 x5 x7 x11 x12 x15 x16 x17 x26 x29 x30 x31 x32 x34 x35 x36 x37 x38 x39 x40 x41 x49 x50) 0 0 Q := by
  intro nn
  induction nn using Nat.strongRecOn with
  | ind nn ih =>
  intro k ee tk lv hn k0 k1 v0 v1 hk hR
  obtain ⟨k, rfl⟩ : ∃ j, k = j + 1 := ⟨k - 1, by omega⟩
  simp only [pLp] at hR
  have hck := hcd tk (by omega) (by omega)
  refine j_aload_n d_Mod_readTerm_5 rfl ?_
  refine z_bipush d_Mod_readTerm_6 (by decide) ?_
  refine s_call1 d_Mod_readTerm_8 c_Mod_208 (Nat.le_of_ble_eq_true rfl) (t_Mod_sign  ?_)
  refine v_call1 d_Mod_readTerm_11 c_Mod_169 rfl ⟨_, rfl, rfl⟩ (Nat.le_of_ble_eq_true rfl) (t_Mod_takes0 hN0 hN1 hNe hcd (by omega) (by omega) (by omega) (fun h11 => ?_) (fun h11 => ?_))
  · refine z_if_ne (t := 41) d_Mod_readTerm_14 (by decide) (by first | omega | exact hw _ | exact hx _ _ | assumption) (fun _ => ?_) (fun h => absurd h (by decide))
    have hop : isM (x15 tk) := by show x15 tk = 142 ∨ x15 tk = 147 ∨ x15 tk = 137; omega
    rw [if_pos hop] at hR
    have hne : tk ≠ i18 := fun e => (show x15 tk ≠ 0 by omega) (by rw [e]; exact hNe)
    refine j_aload_n d_Mod_readTerm_41 rfl ?_
    refine j_iload_n d_Mod_readTerm_42 rfl ?_
    refine v_call1 d_Mod_readTerm_43 c_Mod_215 rfl ⟨_, rfl, rfl⟩ (Nat.le_of_ble_eq_true rfl) (hP _ _ _ (by omega) (by omega) (by omega) (by omega) (fun ea1 ta1 la1 hF1 => ?_) (fun ta1 hF1 la1 => ?_))
    · obtain ⟨u11, u21, u31, u41⟩ := (hG (tk + 1) lv (by omega) (by omega) (by omega) (by omega)).1 _ _ _ hF1
      have hck1 := hcd ta1 (by omega) (by omega)
      rw [hF1] at hR
      simp only at hR
      refine j_goto (t := 5) d_Mod_readTerm_46 (by decide) ?_
      exact ih _ (by omega) _ _ _ _ rfl (by omega) (by omega) (by omega) (by omega) (by omega) hR
    · obtain ⟨u11, u21⟩ := (hG (tk + 1) lv (by omega) (by omega) (by omega) (by omega)).2 _ hF1
      have hck1 := hcd ta1 (by omega) (by omega)
      obtain ⟨hbz, hbz2⟩ := hck1.2.2
      rw [hF1] at hR
      simp only at hR
      refine j_goto (t := 5) d_Mod_readTerm_46 (by decide) ?_
      refine j_aload_n d_Mod_readTerm_5 rfl ?_
      refine z_bipush d_Mod_readTerm_6 (by decide) ?_
      refine s_call1 d_Mod_readTerm_8 c_Mod_208 (Nat.le_of_ble_eq_true rfl) (t_Mod_sign  ?_)
      refine v_call1 d_Mod_readTerm_11 c_Mod_169 rfl ⟨_, rfl, rfl⟩ (Nat.le_of_ble_eq_true rfl) (b_Mod_takes0 hbz hbz2 ?_)
      refine z_if_ne (t := 41) d_Mod_readTerm_14 (by decide) (by first | omega | exact hw _ | exact hx _ _ | assumption) (fun h => absurd h (by decide)) (fun _ => ?_)
      refine j_aload_n d_Mod_readTerm_17 rfl ?_
      refine z_bipush d_Mod_readTerm_18 (by decide) ?_
      refine s_call1 d_Mod_readTerm_20 c_Mod_208 (Nat.le_of_ble_eq_true rfl) (t_Mod_sign  ?_)
      refine v_call1 d_Mod_readTerm_23 c_Mod_169 rfl ⟨_, rfl, rfl⟩ (Nat.le_of_ble_eq_true rfl) (b_Mod_takes0 hbz hbz2 ?_)
      refine z_if_ne (t := 41) d_Mod_readTerm_26 (by decide) (by first | omega | exact hw _ | exact hx _ _ | assumption) (fun h => absurd h (by decide)) (fun _ => ?_)
      refine j_aload_n d_Mod_readTerm_29 rfl ?_
      refine z_bipush d_Mod_readTerm_30 (by decide) ?_
      refine s_call1 d_Mod_readTerm_32 c_Mod_208 (Nat.le_of_ble_eq_true rfl) (t_Mod_sign  ?_)
      refine v_call1 d_Mod_readTerm_35 c_Mod_169 rfl ⟨_, rfl, rfl⟩ (Nat.le_of_ble_eq_true rfl) (b_Mod_takes0 hbz hbz2 ?_)
      refine z_if_eq (t := 49) d_Mod_readTerm_38 (by decide) (by first | omega | exact hw _ | exact hx _ _ | assumption) (fun _ => ?_) (fun h => absurd h (by decide))
      exact j_return rfl d_Mod_readTerm_49 (her _ hR.symm _)
  · refine z_if_ne (t := 41) d_Mod_readTerm_14 (by decide) (by first | omega | exact hw _ | exact hx _ _ | assumption) (fun h => absurd h (by decide)) (fun _ => ?_)
    refine j_aload_n d_Mod_readTerm_17 rfl ?_
    refine z_bipush d_Mod_readTerm_18 (by decide) ?_
    refine s_call1 d_Mod_readTerm_20 c_Mod_208 (Nat.le_of_ble_eq_true rfl) (t_Mod_sign  ?_)
    refine v_call1 d_Mod_readTerm_23 c_Mod_169 rfl ⟨_, rfl, rfl⟩ (Nat.le_of_ble_eq_true rfl) (t_Mod_takes0 hN0 hN1 hNe hcd (by omega) (by omega) (by omega) (fun h23 => ?_) (fun h23 => ?_))
    · refine z_if_ne (t := 41) d_Mod_readTerm_26 (by decide) (by first | omega | exact hw _ | exact hx _ _ | assumption) (fun _ => ?_) (fun h => absurd h (by decide))
      have hop : isM (x15 tk) := by show x15 tk = 142 ∨ x15 tk = 147 ∨ x15 tk = 137; omega
      rw [if_pos hop] at hR
      have hne : tk ≠ i18 := fun e => (show x15 tk ≠ 0 by omega) (by rw [e]; exact hNe)
      refine j_aload_n d_Mod_readTerm_41 rfl ?_
      refine j_iload_n d_Mod_readTerm_42 rfl ?_
      refine v_call1 d_Mod_readTerm_43 c_Mod_215 rfl ⟨_, rfl, rfl⟩ (Nat.le_of_ble_eq_true rfl) (hP _ _ _ (by omega) (by omega) (by omega) (by omega) (fun ea1 ta1 la1 hF1 => ?_) (fun ta1 hF1 la1 => ?_))
      · obtain ⟨u11, u21, u31, u41⟩ := (hG (tk + 1) lv (by omega) (by omega) (by omega) (by omega)).1 _ _ _ hF1
        have hck1 := hcd ta1 (by omega) (by omega)
        rw [hF1] at hR
        simp only at hR
        refine j_goto (t := 5) d_Mod_readTerm_46 (by decide) ?_
        exact ih _ (by omega) _ _ _ _ rfl (by omega) (by omega) (by omega) (by omega) (by omega) hR
      · obtain ⟨u11, u21⟩ := (hG (tk + 1) lv (by omega) (by omega) (by omega) (by omega)).2 _ hF1
        have hck1 := hcd ta1 (by omega) (by omega)
        obtain ⟨hbz, hbz2⟩ := hck1.2.2
        rw [hF1] at hR
        simp only at hR
        refine j_goto (t := 5) d_Mod_readTerm_46 (by decide) ?_
        refine j_aload_n d_Mod_readTerm_5 rfl ?_
        refine z_bipush d_Mod_readTerm_6 (by decide) ?_
        refine s_call1 d_Mod_readTerm_8 c_Mod_208 (Nat.le_of_ble_eq_true rfl) (t_Mod_sign  ?_)
        refine v_call1 d_Mod_readTerm_11 c_Mod_169 rfl ⟨_, rfl, rfl⟩ (Nat.le_of_ble_eq_true rfl) (b_Mod_takes0 hbz hbz2 ?_)
        refine z_if_ne (t := 41) d_Mod_readTerm_14 (by decide) (by first | omega | exact hw _ | exact hx _ _ | assumption) (fun h => absurd h (by decide)) (fun _ => ?_)
        refine j_aload_n d_Mod_readTerm_17 rfl ?_
        refine z_bipush d_Mod_readTerm_18 (by decide) ?_
        refine s_call1 d_Mod_readTerm_20 c_Mod_208 (Nat.le_of_ble_eq_true rfl) (t_Mod_sign  ?_)
        refine v_call1 d_Mod_readTerm_23 c_Mod_169 rfl ⟨_, rfl, rfl⟩ (Nat.le_of_ble_eq_true rfl) (b_Mod_takes0 hbz hbz2 ?_)
        refine z_if_ne (t := 41) d_Mod_readTerm_26 (by decide) (by first | omega | exact hw _ | exact hx _ _ | assumption) (fun h => absurd h (by decide)) (fun _ => ?_)
        refine j_aload_n d_Mod_readTerm_29 rfl ?_
        refine z_bipush d_Mod_readTerm_30 (by decide) ?_
        refine s_call1 d_Mod_readTerm_32 c_Mod_208 (Nat.le_of_ble_eq_true rfl) (t_Mod_sign  ?_)
        refine v_call1 d_Mod_readTerm_35 c_Mod_169 rfl ⟨_, rfl, rfl⟩ (Nat.le_of_ble_eq_true rfl) (b_Mod_takes0 hbz hbz2 ?_)
        refine z_if_eq (t := 49) d_Mod_readTerm_38 (by decide) (by first | omega | exact hw _ | exact hx _ _ | assumption) (fun _ => ?_) (fun h => absurd h (by decide))
        exact j_return rfl d_Mod_readTerm_49 (her _ hR.symm _)
    · refine z_if_ne (t := 41) d_Mod_readTerm_26 (by decide) (by first | omega | exact hw _ | exact hx _ _ | assumption) (fun h => absurd h (by decide)) (fun _ => ?_)
      refine j_aload_n d_Mod_readTerm_29 rfl ?_
      refine z_bipush d_Mod_readTerm_30 (by decide) ?_
      refine s_call1 d_Mod_readTerm_32 c_Mod_208 (Nat.le_of_ble_eq_true rfl) (t_Mod_sign  ?_)
      refine v_call1 d_Mod_readTerm_35 c_Mod_169 rfl ⟨_, rfl, rfl⟩ (Nat.le_of_ble_eq_true rfl) (t_Mod_takes0 hN0 hN1 hNe hcd (by omega) (by omega) (by omega) (fun h35 => ?_) (fun h35 => ?_))
      · refine z_if_eq (t := 49) d_Mod_readTerm_38 (by decide) (by first | omega | exact hw _ | exact hx _ _ | assumption) (fun h => absurd h (by decide)) (fun _ => ?_)
        have hop : isM (x15 tk) := by show x15 tk = 142 ∨ x15 tk = 147 ∨ x15 tk = 137; omega
        rw [if_pos hop] at hR
        have hne : tk ≠ i18 := fun e => (show x15 tk ≠ 0 by omega) (by rw [e]; exact hNe)
        refine j_aload_n d_Mod_readTerm_41 rfl ?_
        refine j_iload_n d_Mod_readTerm_42 rfl ?_
        refine v_call1 d_Mod_readTerm_43 c_Mod_215 rfl ⟨_, rfl, rfl⟩ (Nat.le_of_ble_eq_true rfl) (hP _ _ _ (by omega) (by omega) (by omega) (by omega) (fun ea1 ta1 la1 hF1 => ?_) (fun ta1 hF1 la1 => ?_))
        · obtain ⟨u11, u21, u31, u41⟩ := (hG (tk + 1) lv (by omega) (by omega) (by omega) (by omega)).1 _ _ _ hF1
          have hck1 := hcd ta1 (by omega) (by omega)
          rw [hF1] at hR
          simp only at hR
          refine j_goto (t := 5) d_Mod_readTerm_46 (by decide) ?_
          exact ih _ (by omega) _ _ _ _ rfl (by omega) (by omega) (by omega) (by omega) (by omega) hR
        · obtain ⟨u11, u21⟩ := (hG (tk + 1) lv (by omega) (by omega) (by omega) (by omega)).2 _ hF1
          have hck1 := hcd ta1 (by omega) (by omega)
          obtain ⟨hbz, hbz2⟩ := hck1.2.2
          rw [hF1] at hR
          simp only at hR
          refine j_goto (t := 5) d_Mod_readTerm_46 (by decide) ?_
          refine j_aload_n d_Mod_readTerm_5 rfl ?_
          refine z_bipush d_Mod_readTerm_6 (by decide) ?_
          refine s_call1 d_Mod_readTerm_8 c_Mod_208 (Nat.le_of_ble_eq_true rfl) (t_Mod_sign  ?_)
          refine v_call1 d_Mod_readTerm_11 c_Mod_169 rfl ⟨_, rfl, rfl⟩ (Nat.le_of_ble_eq_true rfl) (b_Mod_takes0 hbz hbz2 ?_)
          refine z_if_ne (t := 41) d_Mod_readTerm_14 (by decide) (by first | omega | exact hw _ | exact hx _ _ | assumption) (fun h => absurd h (by decide)) (fun _ => ?_)
          refine j_aload_n d_Mod_readTerm_17 rfl ?_
          refine z_bipush d_Mod_readTerm_18 (by decide) ?_
          refine s_call1 d_Mod_readTerm_20 c_Mod_208 (Nat.le_of_ble_eq_true rfl) (t_Mod_sign  ?_)
          refine v_call1 d_Mod_readTerm_23 c_Mod_169 rfl ⟨_, rfl, rfl⟩ (Nat.le_of_ble_eq_true rfl) (b_Mod_takes0 hbz hbz2 ?_)
          refine z_if_ne (t := 41) d_Mod_readTerm_26 (by decide) (by first | omega | exact hw _ | exact hx _ _ | assumption) (fun h => absurd h (by decide)) (fun _ => ?_)
          refine j_aload_n d_Mod_readTerm_29 rfl ?_
          refine z_bipush d_Mod_readTerm_30 (by decide) ?_
          refine s_call1 d_Mod_readTerm_32 c_Mod_208 (Nat.le_of_ble_eq_true rfl) (t_Mod_sign  ?_)
          refine v_call1 d_Mod_readTerm_35 c_Mod_169 rfl ⟨_, rfl, rfl⟩ (Nat.le_of_ble_eq_true rfl) (b_Mod_takes0 hbz hbz2 ?_)
          refine z_if_eq (t := 49) d_Mod_readTerm_38 (by decide) (by first | omega | exact hw _ | exact hx _ _ | assumption) (fun _ => ?_) (fun h => absurd h (by decide))
          exact j_return rfl d_Mod_readTerm_49 (her _ hR.symm _)
      · refine z_if_eq (t := 49) d_Mod_readTerm_38 (by decide) (by first | omega | exact hw _ | exact hx _ _ | assumption) (fun _ => ?_) (fun h => absurd h (by decide))
        have hop : ¬ isM (x15 tk) := by show ¬ (x15 tk = 142 ∨ x15 tk = 147 ∨ x15 tk = 137); omega
        rw [if_neg hop] at hR
        exact j_return rfl d_Mod_readTerm_49 (hok _ _ _ hR.symm)
theorem t_Mod_readTerm {g : Bool} {d : Nat} {Q : List xM → Option Value → Prop} {i0 i6 i8 i9 i10 i13 i14 i18 i22 i23 i24 i25 i27 i28 i33 i42 i43 i44 i45 i46 i47 i48 i51 i52 : Int} {x1 x2 x3 x4 x5 x7 x11 x12 x15 x16 x17 x26 x29 x30 x31 x32 x34 x35 x36 x37 x38 x39 x40 x41 x49 x50 : Int → Int} (hN0 : 0 ≤ i18) (hN1 : i18 ≤ 400) (hNe : x15 i18 = 0) (hcd : ∀ j, 0 ≤ j → j ≤ i18 → (0 ≤ x15 j ∧ x15 j ≤ 400) ∧ (0 ≤ x16 j ∧ x16 j ≤ 100000000) ∧ (0 ≤ x17 j ∧ x17 j ≤ 400)) {deep : Int} {FP : Int → Int → PR SXC} (hP : MR g m_Mod_readPart (d + 4) deep i0 i6 i8 i9 i10 i13 i14 i18 i22 i23 i24 i25 i27 i28 i33 i42 i43 i44 i45 i46 i47 i48 i51 i52 x1 x2 x3 x4 x5 x7 x11 x12 x15 x16 x17 x26 x29 x30 x31 x32 x34 x35 x36 x37 x38 x39 x40 x41 x49 x50 FP) (hG : GP i18 FP) {tk lv : Int} (k0 : 1 ≤ tk) (k1 : tk ≤ i18) (v0 : 0 ≤ lv) (v1 : lv ≤ 50) (hok : ∀ a t l, pLV x15 FP isM bnX tk lv = .inl (a, t, l) → Q (MM i0 i6 i8 i9 i10 i13 i14 i18 t l (-1) i22 i23 i24 i25 i27 i28 i33 i42 i43 i44 i45 i46 i47 i48 i51 i52 x1 x2 x3 x4 x5 x7 x11 x12 x15 x16 x17 x26 x29 x30 x31 x32 x34 x35 x36 x37 x38 x39 x40 x41 x49 x50) none) (her : ∀ t, pLV x15 FP isM bnX tk lv = .inr t → ∀ l, Q (MM i0 i6 i8 i9 i10 i13 i14 i18 t l (x17 t) i22 i23 i24 i25 i27 i28 i33 i42 i43 i44 i45 i46 i47 i48 i51 i52 x1 x2 x3 x4 x5 x7 x11 x12 x15 x16 x17 x26 x29 x30 x31 x32 x34 x35 x36 x37 x38 x39 x40 x41 x49 x50) none)  : CT g m_Mod_readTerm (d + 5) [.ref 0, .int (ii deep)] (MM i0 i6 i8 i9 i10 i13 i14 i18 tk lv (-1) i22 i23 i24 i25 i27 i28 i33 i42 i43 i44 i45 i46 i47 i48 i51 i52 x1 x2 x3 x4 x5 x7 x11 x12 x15 x16 x17 x26 x29 x30 x31 x32 x34 x35 x36 x37 x38 x39 x40 x41 x49 x50) 0 0 Q := by
  refine CT.of (by decide) (Nat.le_of_ble_eq_true rfl) ?_
  show SJ _ _ _ _ [some (.ref 0), some (.int (ii deep))] [] _ _ _ _
  generalize hR : pLV x15 FP isM bnX tk lv = R at hok her
  unfold pLV at hR
  refine j_aload_n d_Mod_readTerm_0 rfl ?_
  refine j_iload_n d_Mod_readTerm_1 rfl ?_
  refine v_call1 d_Mod_readTerm_2 c_Mod_215 rfl ⟨_, rfl, rfl⟩ (Nat.le_of_ble_eq_true rfl) (hP _ _ _ (by omega) (by omega) (by omega) (by omega) (fun ea0 ta0 la0 hF0 => ?_) (fun ta0 hF0 la0 => ?_))
  · obtain ⟨u10, u20, u30, u40⟩ := (hG tk lv (by omega) (by omega) (by omega) (by omega)).1 _ _ _ hF0
    have hck0 := hcd ta0 (by omega) (by omega)
    rw [hF0] at hR
    simp only at hR
    exact lp_readTerm hN0 hN1 hNe hcd hP hG (R := R) hok her _ 401 _ _ _ rfl (by omega) (by omega) (by omega) (by omega) (by omega) hR
  · obtain ⟨u10, u20⟩ := (hG tk lv (by omega) (by omega) (by omega) (by omega)).2 _ hF0
    have hck0 := hcd ta0 (by omega) (by omega)
    obtain ⟨hbz, hbz2⟩ := hck0.2.2
    rw [hF0] at hR
    simp only at hR
    refine j_aload_n d_Mod_readTerm_5 rfl ?_
    refine z_bipush d_Mod_readTerm_6 (by decide) ?_
    refine s_call1 d_Mod_readTerm_8 c_Mod_208 (Nat.le_of_ble_eq_true rfl) (t_Mod_sign  ?_)
    refine v_call1 d_Mod_readTerm_11 c_Mod_169 rfl ⟨_, rfl, rfl⟩ (Nat.le_of_ble_eq_true rfl) (b_Mod_takes0 hbz hbz2 ?_)
    refine z_if_ne (t := 41) d_Mod_readTerm_14 (by decide) (by first | omega | exact hw _ | exact hx _ _ | assumption) (fun h => absurd h (by decide)) (fun _ => ?_)
    refine j_aload_n d_Mod_readTerm_17 rfl ?_
    refine z_bipush d_Mod_readTerm_18 (by decide) ?_
    refine s_call1 d_Mod_readTerm_20 c_Mod_208 (Nat.le_of_ble_eq_true rfl) (t_Mod_sign  ?_)
    refine v_call1 d_Mod_readTerm_23 c_Mod_169 rfl ⟨_, rfl, rfl⟩ (Nat.le_of_ble_eq_true rfl) (b_Mod_takes0 hbz hbz2 ?_)
    refine z_if_ne (t := 41) d_Mod_readTerm_26 (by decide) (by first | omega | exact hw _ | exact hx _ _ | assumption) (fun h => absurd h (by decide)) (fun _ => ?_)
    refine j_aload_n d_Mod_readTerm_29 rfl ?_
    refine z_bipush d_Mod_readTerm_30 (by decide) ?_
    refine s_call1 d_Mod_readTerm_32 c_Mod_208 (Nat.le_of_ble_eq_true rfl) (t_Mod_sign  ?_)
    refine v_call1 d_Mod_readTerm_35 c_Mod_169 rfl ⟨_, rfl, rfl⟩ (Nat.le_of_ble_eq_true rfl) (b_Mod_takes0 hbz hbz2 ?_)
    refine z_if_eq (t := 49) d_Mod_readTerm_38 (by decide) (by first | omega | exact hw _ | exact hx _ _ | assumption) (fun _ => ?_) (fun h => absurd h (by decide))
    exact j_return rfl d_Mod_readTerm_49 (her _ hR.symm _)
theorem lp_readSum {g : Bool} {d : Nat} {Q : List xM → Option Value → Prop} {i0 i6 i8 i9 i10 i13 i14 i18 i22 i23 i24 i25 i27 i28 i33 i42 i43 i44 i45 i46 i47 i48 i51 i52 : Int} {x1 x2 x3 x4 x5 x7 x11 x12 x15 x16 x17 x26 x29 x30 x31 x32 x34 x35 x36 x37 x38 x39 x40 x41 x49 x50 : Int → Int} (hN0 : 0 ≤ i18) (hN1 : i18 ≤ 400) (hNe : x15 i18 = 0) (hcd : ∀ j, 0 ≤ j → j ≤ i18 → (0 ≤ x15 j ∧ x15 j ≤ 400) ∧ (0 ≤ x16 j ∧ x16 j ≤ 100000000) ∧ (0 ≤ x17 j ∧ x17 j ≤ 400)) {deep : Int} {FP : Int → Int → PR SXC} (hP : MR g m_Mod_readTerm (d + 4) deep i0 i6 i8 i9 i10 i13 i14 i18 i22 i23 i24 i25 i27 i28 i33 i42 i43 i44 i45 i46 i47 i48 i51 i52 x1 x2 x3 x4 x5 x7 x11 x12 x15 x16 x17 x26 x29 x30 x31 x32 x34 x35 x36 x37 x38 x39 x40 x41 x49 x50 FP) (hG : GP i18 FP) {R : PR SXC} (hok : ∀ a t l, R = .inl (a, t, l) → Q (MM i0 i6 i8 i9 i10 i13 i14 i18 t l (-1) i22 i23 i24 i25 i27 i28 i33 i42 i43 i44 i45 i46 i47 i48 i51 i52 x1 x2 x3 x4 x5 x7 x11 x12 x15 x16 x17 x26 x29 x30 x31 x32 x34 x35 x36 x37 x38 x39 x40 x41 x49 x50) none) (her : ∀ t, R = .inr t → ∀ l, Q (MM i0 i6 i8 i9 i10 i13 i14 i18 t l (x17 t) i22 i23 i24 i25 i27 i28 i33 i42 i43 i44 i45 i46 i47 i48 i51 i52 x1 x2 x3 x4 x5 x7 x11 x12 x15 x16 x17 x26 x29 x30 x31 x32 x34 x35 x36 x37 x38 x39 x40 x41 x49 x50) none)  : ∀ (nn : Nat) (k : Nat) (ee : SXC) (tk : Int) (lv : Int), ((k : Int)).toNat = nn → 1 ≤ tk → tk ≤ i18 → 0 ≤ lv → lv ≤ 50 → i18 - tk < (k : Int) → pLp x15 FP isA bnX k ee tk lv = R → SJ g m_Mod_readSum (d + 5) 5 [some (.ref 0), some (.int (ii deep))] [] (MM i0 i6 i8 i9 i10 i13 i14 i18 tk lv (-1) i22 i23 i24 i25 i27 i28 i33 i42 i43 i44 i45 i46 i47 i48 i51 i52 x1 x2 x3 x4 x5 x7 x11 x12 x15 x16 x17 x26 x29 x30 x31 x32 x34 x35 x36 x37 x38 x39 x40 x41 x49 x50) 0 0 Q := by
  intro nn
  induction nn using Nat.strongRecOn with
  | ind nn ih =>
  intro k ee tk lv hn k0 k1 v0 v1 hk hR
  obtain ⟨k, rfl⟩ : ∃ j, k = j + 1 := ⟨k - 1, by omega⟩
  simp only [pLp] at hR
  have hck := hcd tk (by omega) (by omega)
  refine j_aload_n d_Mod_readSum_5 rfl ?_
  refine z_bipush d_Mod_readSum_6 (by decide) ?_
  refine s_call1 d_Mod_readSum_8 c_Mod_208 (Nat.le_of_ble_eq_true rfl) (t_Mod_sign  ?_)
  refine v_call1 d_Mod_readSum_11 c_Mod_169 rfl ⟨_, rfl, rfl⟩ (Nat.le_of_ble_eq_true rfl) (t_Mod_takes0 hN0 hN1 hNe hcd (by omega) (by omega) (by omega) (fun h11 => ?_) (fun h11 => ?_))
  · refine z_if_ne (t := 29) d_Mod_readSum_14 (by decide) (by first | omega | exact hw _ | exact hx _ _ | assumption) (fun _ => ?_) (fun h => absurd h (by decide))
    have hop : isA (x15 tk) := by show x15 tk = 143 ∨ x15 tk = 145; omega
    rw [if_pos hop] at hR
    have hne : tk ≠ i18 := fun e => (show x15 tk ≠ 0 by omega) (by rw [e]; exact hNe)
    refine j_aload_n d_Mod_readSum_29 rfl ?_
    refine j_iload_n d_Mod_readSum_30 rfl ?_
    refine v_call1 d_Mod_readSum_31 c_Mod_212 rfl ⟨_, rfl, rfl⟩ (Nat.le_of_ble_eq_true rfl) (hP _ _ _ (by omega) (by omega) (by omega) (by omega) (fun ea1 ta1 la1 hF1 => ?_) (fun ta1 hF1 la1 => ?_))
    · obtain ⟨u11, u21, u31, u41⟩ := (hG (tk + 1) lv (by omega) (by omega) (by omega) (by omega)).1 _ _ _ hF1
      have hck1 := hcd ta1 (by omega) (by omega)
      rw [hF1] at hR
      simp only at hR
      refine j_goto (t := 5) d_Mod_readSum_34 (by decide) ?_
      exact ih _ (by omega) _ _ _ _ rfl (by omega) (by omega) (by omega) (by omega) (by omega) hR
    · obtain ⟨u11, u21⟩ := (hG (tk + 1) lv (by omega) (by omega) (by omega) (by omega)).2 _ hF1
      have hck1 := hcd ta1 (by omega) (by omega)
      obtain ⟨hbz, hbz2⟩ := hck1.2.2
      rw [hF1] at hR
      simp only at hR
      refine j_goto (t := 5) d_Mod_readSum_34 (by decide) ?_
      refine j_aload_n d_Mod_readSum_5 rfl ?_
      refine z_bipush d_Mod_readSum_6 (by decide) ?_
      refine s_call1 d_Mod_readSum_8 c_Mod_208 (Nat.le_of_ble_eq_true rfl) (t_Mod_sign  ?_)
      refine v_call1 d_Mod_readSum_11 c_Mod_169 rfl ⟨_, rfl, rfl⟩ (Nat.le_of_ble_eq_true rfl) (b_Mod_takes0 hbz hbz2 ?_)
      refine z_if_ne (t := 29) d_Mod_readSum_14 (by decide) (by first | omega | exact hw _ | exact hx _ _ | assumption) (fun h => absurd h (by decide)) (fun _ => ?_)
      refine j_aload_n d_Mod_readSum_17 rfl ?_
      refine z_bipush d_Mod_readSum_18 (by decide) ?_
      refine s_call1 d_Mod_readSum_20 c_Mod_208 (Nat.le_of_ble_eq_true rfl) (t_Mod_sign  ?_)
      refine v_call1 d_Mod_readSum_23 c_Mod_169 rfl ⟨_, rfl, rfl⟩ (Nat.le_of_ble_eq_true rfl) (b_Mod_takes0 hbz hbz2 ?_)
      refine z_if_eq (t := 37) d_Mod_readSum_26 (by decide) (by first | omega | exact hw _ | exact hx _ _ | assumption) (fun _ => ?_) (fun h => absurd h (by decide))
      exact j_return rfl d_Mod_readSum_37 (her _ hR.symm _)
  · refine z_if_ne (t := 29) d_Mod_readSum_14 (by decide) (by first | omega | exact hw _ | exact hx _ _ | assumption) (fun h => absurd h (by decide)) (fun _ => ?_)
    refine j_aload_n d_Mod_readSum_17 rfl ?_
    refine z_bipush d_Mod_readSum_18 (by decide) ?_
    refine s_call1 d_Mod_readSum_20 c_Mod_208 (Nat.le_of_ble_eq_true rfl) (t_Mod_sign  ?_)
    refine v_call1 d_Mod_readSum_23 c_Mod_169 rfl ⟨_, rfl, rfl⟩ (Nat.le_of_ble_eq_true rfl) (t_Mod_takes0 hN0 hN1 hNe hcd (by omega) (by omega) (by omega) (fun h23 => ?_) (fun h23 => ?_))
    · refine z_if_eq (t := 37) d_Mod_readSum_26 (by decide) (by first | omega | exact hw _ | exact hx _ _ | assumption) (fun h => absurd h (by decide)) (fun _ => ?_)
      have hop : isA (x15 tk) := by show x15 tk = 143 ∨ x15 tk = 145; omega
      rw [if_pos hop] at hR
      have hne : tk ≠ i18 := fun e => (show x15 tk ≠ 0 by omega) (by rw [e]; exact hNe)
      refine j_aload_n d_Mod_readSum_29 rfl ?_
      refine j_iload_n d_Mod_readSum_30 rfl ?_
      refine v_call1 d_Mod_readSum_31 c_Mod_212 rfl ⟨_, rfl, rfl⟩ (Nat.le_of_ble_eq_true rfl) (hP _ _ _ (by omega) (by omega) (by omega) (by omega) (fun ea1 ta1 la1 hF1 => ?_) (fun ta1 hF1 la1 => ?_))
      · obtain ⟨u11, u21, u31, u41⟩ := (hG (tk + 1) lv (by omega) (by omega) (by omega) (by omega)).1 _ _ _ hF1
        have hck1 := hcd ta1 (by omega) (by omega)
        rw [hF1] at hR
        simp only at hR
        refine j_goto (t := 5) d_Mod_readSum_34 (by decide) ?_
        exact ih _ (by omega) _ _ _ _ rfl (by omega) (by omega) (by omega) (by omega) (by omega) hR
      · obtain ⟨u11, u21⟩ := (hG (tk + 1) lv (by omega) (by omega) (by omega) (by omega)).2 _ hF1
        have hck1 := hcd ta1 (by omega) (by omega)
        obtain ⟨hbz, hbz2⟩ := hck1.2.2
        rw [hF1] at hR
        simp only at hR
        refine j_goto (t := 5) d_Mod_readSum_34 (by decide) ?_
        refine j_aload_n d_Mod_readSum_5 rfl ?_
        refine z_bipush d_Mod_readSum_6 (by decide) ?_
        refine s_call1 d_Mod_readSum_8 c_Mod_208 (Nat.le_of_ble_eq_true rfl) (t_Mod_sign  ?_)
        refine v_call1 d_Mod_readSum_11 c_Mod_169 rfl ⟨_, rfl, rfl⟩ (Nat.le_of_ble_eq_true rfl) (b_Mod_takes0 hbz hbz2 ?_)
        refine z_if_ne (t := 29) d_Mod_readSum_14 (by decide) (by first | omega | exact hw _ | exact hx _ _ | assumption) (fun h => absurd h (by decide)) (fun _ => ?_)
        refine j_aload_n d_Mod_readSum_17 rfl ?_
        refine z_bipush d_Mod_readSum_18 (by decide) ?_
        refine s_call1 d_Mod_readSum_20 c_Mod_208 (Nat.le_of_ble_eq_true rfl) (t_Mod_sign  ?_)
        refine v_call1 d_Mod_readSum_23 c_Mod_169 rfl ⟨_, rfl, rfl⟩ (Nat.le_of_ble_eq_true rfl) (b_Mod_takes0 hbz hbz2 ?_)
        refine z_if_eq (t := 37) d_Mod_readSum_26 (by decide) (by first | omega | exact hw _ | exact hx _ _ | assumption) (fun _ => ?_) (fun h => absurd h (by decide))
        exact j_return rfl d_Mod_readSum_37 (her _ hR.symm _)
    · refine z_if_eq (t := 37) d_Mod_readSum_26 (by decide) (by first | omega | exact hw _ | exact hx _ _ | assumption) (fun _ => ?_) (fun h => absurd h (by decide))
      have hop : ¬ isA (x15 tk) := by show ¬ (x15 tk = 143 ∨ x15 tk = 145); omega
      rw [if_neg hop] at hR
      exact j_return rfl d_Mod_readSum_37 (hok _ _ _ hR.symm)
theorem t_Mod_readSum {g : Bool} {d : Nat} {Q : List xM → Option Value → Prop} {i0 i6 i8 i9 i10 i13 i14 i18 i22 i23 i24 i25 i27 i28 i33 i42 i43 i44 i45 i46 i47 i48 i51 i52 : Int} {x1 x2 x3 x4 x5 x7 x11 x12 x15 x16 x17 x26 x29 x30 x31 x32 x34 x35 x36 x37 x38 x39 x40 x41 x49 x50 : Int → Int} (hN0 : 0 ≤ i18) (hN1 : i18 ≤ 400) (hNe : x15 i18 = 0) (hcd : ∀ j, 0 ≤ j → j ≤ i18 → (0 ≤ x15 j ∧ x15 j ≤ 400) ∧ (0 ≤ x16 j ∧ x16 j ≤ 100000000) ∧ (0 ≤ x17 j ∧ x17 j ≤ 400)) {deep : Int} {FP : Int → Int → PR SXC} (hP : MR g m_Mod_readTerm (d + 4) deep i0 i6 i8 i9 i10 i13 i14 i18 i22 i23 i24 i25 i27 i28 i33 i42 i43 i44 i45 i46 i47 i48 i51 i52 x1 x2 x3 x4 x5 x7 x11 x12 x15 x16 x17 x26 x29 x30 x31 x32 x34 x35 x36 x37 x38 x39 x40 x41 x49 x50 FP) (hG : GP i18 FP) {tk lv : Int} (k0 : 1 ≤ tk) (k1 : tk ≤ i18) (v0 : 0 ≤ lv) (v1 : lv ≤ 50) (hok : ∀ a t l, pLV x15 FP isA bnX tk lv = .inl (a, t, l) → Q (MM i0 i6 i8 i9 i10 i13 i14 i18 t l (-1) i22 i23 i24 i25 i27 i28 i33 i42 i43 i44 i45 i46 i47 i48 i51 i52 x1 x2 x3 x4 x5 x7 x11 x12 x15 x16 x17 x26 x29 x30 x31 x32 x34 x35 x36 x37 x38 x39 x40 x41 x49 x50) none) (her : ∀ t, pLV x15 FP isA bnX tk lv = .inr t → ∀ l, Q (MM i0 i6 i8 i9 i10 i13 i14 i18 t l (x17 t) i22 i23 i24 i25 i27 i28 i33 i42 i43 i44 i45 i46 i47 i48 i51 i52 x1 x2 x3 x4 x5 x7 x11 x12 x15 x16 x17 x26 x29 x30 x31 x32 x34 x35 x36 x37 x38 x39 x40 x41 x49 x50) none)  : CT g m_Mod_readSum (d + 5) [.ref 0, .int (ii deep)] (MM i0 i6 i8 i9 i10 i13 i14 i18 tk lv (-1) i22 i23 i24 i25 i27 i28 i33 i42 i43 i44 i45 i46 i47 i48 i51 i52 x1 x2 x3 x4 x5 x7 x11 x12 x15 x16 x17 x26 x29 x30 x31 x32 x34 x35 x36 x37 x38 x39 x40 x41 x49 x50) 0 0 Q := by
  refine CT.of (by decide) (Nat.le_of_ble_eq_true rfl) ?_
  show SJ _ _ _ _ [some (.ref 0), some (.int (ii deep))] [] _ _ _ _
  generalize hR : pLV x15 FP isA bnX tk lv = R at hok her
  unfold pLV at hR
  refine j_aload_n d_Mod_readSum_0 rfl ?_
  refine j_iload_n d_Mod_readSum_1 rfl ?_
  refine v_call1 d_Mod_readSum_2 c_Mod_212 rfl ⟨_, rfl, rfl⟩ (Nat.le_of_ble_eq_true rfl) (hP _ _ _ (by omega) (by omega) (by omega) (by omega) (fun ea0 ta0 la0 hF0 => ?_) (fun ta0 hF0 la0 => ?_))
  · obtain ⟨u10, u20, u30, u40⟩ := (hG tk lv (by omega) (by omega) (by omega) (by omega)).1 _ _ _ hF0
    have hck0 := hcd ta0 (by omega) (by omega)
    rw [hF0] at hR
    simp only at hR
    exact lp_readSum hN0 hN1 hNe hcd hP hG (R := R) hok her _ 401 _ _ _ rfl (by omega) (by omega) (by omega) (by omega) (by omega) hR
  · obtain ⟨u10, u20⟩ := (hG tk lv (by omega) (by omega) (by omega) (by omega)).2 _ hF0
    have hck0 := hcd ta0 (by omega) (by omega)
    obtain ⟨hbz, hbz2⟩ := hck0.2.2
    rw [hF0] at hR
    simp only at hR
    refine j_aload_n d_Mod_readSum_5 rfl ?_
    refine z_bipush d_Mod_readSum_6 (by decide) ?_
    refine s_call1 d_Mod_readSum_8 c_Mod_208 (Nat.le_of_ble_eq_true rfl) (t_Mod_sign  ?_)
    refine v_call1 d_Mod_readSum_11 c_Mod_169 rfl ⟨_, rfl, rfl⟩ (Nat.le_of_ble_eq_true rfl) (b_Mod_takes0 hbz hbz2 ?_)
    refine z_if_ne (t := 29) d_Mod_readSum_14 (by decide) (by first | omega | exact hw _ | exact hx _ _ | assumption) (fun h => absurd h (by decide)) (fun _ => ?_)
    refine j_aload_n d_Mod_readSum_17 rfl ?_
    refine z_bipush d_Mod_readSum_18 (by decide) ?_
    refine s_call1 d_Mod_readSum_20 c_Mod_208 (Nat.le_of_ble_eq_true rfl) (t_Mod_sign  ?_)
    refine v_call1 d_Mod_readSum_23 c_Mod_169 rfl ⟨_, rfl, rfl⟩ (Nat.le_of_ble_eq_true rfl) (b_Mod_takes0 hbz hbz2 ?_)
    refine z_if_eq (t := 37) d_Mod_readSum_26 (by decide) (by first | omega | exact hw _ | exact hx _ _ | assumption) (fun _ => ?_) (fun h => absurd h (by decide))
    exact j_return rfl d_Mod_readSum_37 (her _ hR.symm _)
theorem lp_readBoth {g : Bool} {d : Nat} {Q : List xM → Option Value → Prop} {i0 i6 i8 i9 i10 i13 i14 i18 i22 i23 i24 i25 i27 i28 i33 i42 i43 i44 i45 i46 i47 i48 i51 i52 : Int} {x1 x2 x3 x4 x5 x7 x11 x12 x15 x16 x17 x26 x29 x30 x31 x32 x34 x35 x36 x37 x38 x39 x40 x41 x49 x50 : Int → Int} (hN0 : 0 ≤ i18) (hN1 : i18 ≤ 400) (hNe : x15 i18 = 0) (hcd : ∀ j, 0 ≤ j → j ≤ i18 → (0 ≤ x15 j ∧ x15 j ≤ 400) ∧ (0 ≤ x16 j ∧ x16 j ≤ 100000000) ∧ (0 ≤ x17 j ∧ x17 j ≤ 400)) {deep : Int} {FP : Int → Int → PR TXC} (hP : MR g m_Mod_readPlain (d + 4) deep i0 i6 i8 i9 i10 i13 i14 i18 i22 i23 i24 i25 i27 i28 i33 i42 i43 i44 i45 i46 i47 i48 i51 i52 x1 x2 x3 x4 x5 x7 x11 x12 x15 x16 x17 x26 x29 x30 x31 x32 x34 x35 x36 x37 x38 x39 x40 x41 x49 x50 FP) (hG : GP i18 FP) {R : PR TXC} (hok : ∀ a t l, R = .inl (a, t, l) → Q (MM i0 i6 i8 i9 i10 i13 i14 i18 t l (-1) i22 i23 i24 i25 i27 i28 i33 i42 i43 i44 i45 i46 i47 i48 i51 i52 x1 x2 x3 x4 x5 x7 x11 x12 x15 x16 x17 x26 x29 x30 x31 x32 x34 x35 x36 x37 x38 x39 x40 x41 x49 x50) none) (her : ∀ t, R = .inr t → ∀ l, Q (MM i0 i6 i8 i9 i10 i13 i14 i18 t l (x17 t) i22 i23 i24 i25 i27 i28 i33 i42 i43 i44 i45 i46 i47 i48 i51 i52 x1 x2 x3 x4 x5 x7 x11 x12 x15 x16 x17 x26 x29 x30 x31 x32 x34 x35 x36 x37 x38 x39 x40 x41 x49 x50) none)  : ∀ (nn : Nat) (k : Nat) (ee : TXC) (tk : Int) (lv : Int), ((k : Int)).toNat = nn → 1 ≤ tk → tk ≤ i18 → 0 ≤ lv → lv ≤ 50 → i18 - tk < (k : Int) → pLp x15 FP isAnd (fun _ => anX) k ee tk lv = R → SJ g m_Mod_readBoth (d + 5) 5 [some (.ref 0), some (.int (ii deep))] [] (MM i0 i6 i8 i9 i10 i13 i14 i18 tk lv (-1) i22 i23 i24 i25 i27 i28 i33 i42 i43 i44 i45 i46 i47 i48 i51 i52 x1 x2 x3 x4 x5 x7 x11 x12 x15 x16 x17 x26 x29 x30 x31 x32 x34 x35 x36 x37 x38 x39 x40 x41 x49 x50) 0 0 Q := by
  intro nn
  induction nn using Nat.strongRecOn with
  | ind nn ih =>
  intro k ee tk lv hn k0 k1 v0 v1 hk hR
  obtain ⟨k, rfl⟩ : ∃ j, k = j + 1 := ⟨k - 1, by omega⟩
  simp only [pLp] at hR
  have hck := hcd tk (by omega) (by omega)
  refine j_aload_n d_Mod_readBoth_5 rfl ?_
  refine z_bipush d_Mod_readBoth_6 (by decide) ?_
  refine v_call1 d_Mod_readBoth_8 c_Mod_169 rfl ⟨_, rfl, rfl⟩ (Nat.le_of_ble_eq_true rfl) (t_Mod_takes0 hN0 hN1 hNe hcd (by omega) (by omega) (by omega) (fun h8 => ?_) (fun h8 => ?_))
  · refine z_if_eq (t := 22) d_Mod_readBoth_11 (by decide) (by first | omega | exact hw _ | exact hx _ _ | assumption) (fun h => absurd h (by decide)) (fun _ => ?_)
    have hop : isAnd (x15 tk) := by show x15 tk = 7; omega
    rw [if_pos hop] at hR
    have hne : tk ≠ i18 := fun e => (show x15 tk ≠ 0 by omega) (by rw [e]; exact hNe)
    refine j_aload_n d_Mod_readBoth_14 rfl ?_
    refine j_iload_n d_Mod_readBoth_15 rfl ?_
    refine v_call1 d_Mod_readBoth_16 c_Mod_205 rfl ⟨_, rfl, rfl⟩ (Nat.le_of_ble_eq_true rfl) (hP _ _ _ (by omega) (by omega) (by omega) (by omega) (fun ea1 ta1 la1 hF1 => ?_) (fun ta1 hF1 la1 => ?_))
    · obtain ⟨u11, u21, u31, u41⟩ := (hG (tk + 1) lv (by omega) (by omega) (by omega) (by omega)).1 _ _ _ hF1
      have hck1 := hcd ta1 (by omega) (by omega)
      rw [hF1] at hR
      simp only at hR
      refine j_goto (t := 5) d_Mod_readBoth_19 (by decide) ?_
      exact ih _ (by omega) _ _ _ _ rfl (by omega) (by omega) (by omega) (by omega) (by omega) hR
    · obtain ⟨u11, u21⟩ := (hG (tk + 1) lv (by omega) (by omega) (by omega) (by omega)).2 _ hF1
      have hck1 := hcd ta1 (by omega) (by omega)
      obtain ⟨hbz, hbz2⟩ := hck1.2.2
      rw [hF1] at hR
      simp only at hR
      refine j_goto (t := 5) d_Mod_readBoth_19 (by decide) ?_
      refine j_aload_n d_Mod_readBoth_5 rfl ?_
      refine z_bipush d_Mod_readBoth_6 (by decide) ?_
      refine v_call1 d_Mod_readBoth_8 c_Mod_169 rfl ⟨_, rfl, rfl⟩ (Nat.le_of_ble_eq_true rfl) (b_Mod_takes0 hbz hbz2 ?_)
      refine z_if_eq (t := 22) d_Mod_readBoth_11 (by decide) (by first | omega | exact hw _ | exact hx _ _ | assumption) (fun _ => ?_) (fun h => absurd h (by decide))
      exact j_return rfl d_Mod_readBoth_22 (her _ hR.symm _)
  · refine z_if_eq (t := 22) d_Mod_readBoth_11 (by decide) (by first | omega | exact hw _ | exact hx _ _ | assumption) (fun _ => ?_) (fun h => absurd h (by decide))
    have hop : ¬ isAnd (x15 tk) := by show ¬ (x15 tk = 7); omega
    rw [if_neg hop] at hR
    exact j_return rfl d_Mod_readBoth_22 (hok _ _ _ hR.symm)
theorem t_Mod_readBoth {g : Bool} {d : Nat} {Q : List xM → Option Value → Prop} {i0 i6 i8 i9 i10 i13 i14 i18 i22 i23 i24 i25 i27 i28 i33 i42 i43 i44 i45 i46 i47 i48 i51 i52 : Int} {x1 x2 x3 x4 x5 x7 x11 x12 x15 x16 x17 x26 x29 x30 x31 x32 x34 x35 x36 x37 x38 x39 x40 x41 x49 x50 : Int → Int} (hN0 : 0 ≤ i18) (hN1 : i18 ≤ 400) (hNe : x15 i18 = 0) (hcd : ∀ j, 0 ≤ j → j ≤ i18 → (0 ≤ x15 j ∧ x15 j ≤ 400) ∧ (0 ≤ x16 j ∧ x16 j ≤ 100000000) ∧ (0 ≤ x17 j ∧ x17 j ≤ 400)) {deep : Int} {FP : Int → Int → PR TXC} (hP : MR g m_Mod_readPlain (d + 4) deep i0 i6 i8 i9 i10 i13 i14 i18 i22 i23 i24 i25 i27 i28 i33 i42 i43 i44 i45 i46 i47 i48 i51 i52 x1 x2 x3 x4 x5 x7 x11 x12 x15 x16 x17 x26 x29 x30 x31 x32 x34 x35 x36 x37 x38 x39 x40 x41 x49 x50 FP) (hG : GP i18 FP) {tk lv : Int} (k0 : 1 ≤ tk) (k1 : tk ≤ i18) (v0 : 0 ≤ lv) (v1 : lv ≤ 50) (hok : ∀ a t l, pLV x15 FP isAnd (fun _ => anX) tk lv = .inl (a, t, l) → Q (MM i0 i6 i8 i9 i10 i13 i14 i18 t l (-1) i22 i23 i24 i25 i27 i28 i33 i42 i43 i44 i45 i46 i47 i48 i51 i52 x1 x2 x3 x4 x5 x7 x11 x12 x15 x16 x17 x26 x29 x30 x31 x32 x34 x35 x36 x37 x38 x39 x40 x41 x49 x50) none) (her : ∀ t, pLV x15 FP isAnd (fun _ => anX) tk lv = .inr t → ∀ l, Q (MM i0 i6 i8 i9 i10 i13 i14 i18 t l (x17 t) i22 i23 i24 i25 i27 i28 i33 i42 i43 i44 i45 i46 i47 i48 i51 i52 x1 x2 x3 x4 x5 x7 x11 x12 x15 x16 x17 x26 x29 x30 x31 x32 x34 x35 x36 x37 x38 x39 x40 x41 x49 x50) none)  : CT g m_Mod_readBoth (d + 5) [.ref 0, .int (ii deep)] (MM i0 i6 i8 i9 i10 i13 i14 i18 tk lv (-1) i22 i23 i24 i25 i27 i28 i33 i42 i43 i44 i45 i46 i47 i48 i51 i52 x1 x2 x3 x4 x5 x7 x11 x12 x15 x16 x17 x26 x29 x30 x31 x32 x34 x35 x36 x37 x38 x39 x40 x41 x49 x50) 0 0 Q := by
  refine CT.of (by decide) (Nat.le_of_ble_eq_true rfl) ?_
  show SJ _ _ _ _ [some (.ref 0), some (.int (ii deep))] [] _ _ _ _
  generalize hR : pLV x15 FP isAnd (fun _ => anX) tk lv = R at hok her
  unfold pLV at hR
  refine j_aload_n d_Mod_readBoth_0 rfl ?_
  refine j_iload_n d_Mod_readBoth_1 rfl ?_
  refine v_call1 d_Mod_readBoth_2 c_Mod_205 rfl ⟨_, rfl, rfl⟩ (Nat.le_of_ble_eq_true rfl) (hP _ _ _ (by omega) (by omega) (by omega) (by omega) (fun ea0 ta0 la0 hF0 => ?_) (fun ta0 hF0 la0 => ?_))
  · obtain ⟨u10, u20, u30, u40⟩ := (hG tk lv (by omega) (by omega) (by omega) (by omega)).1 _ _ _ hF0
    have hck0 := hcd ta0 (by omega) (by omega)
    rw [hF0] at hR
    simp only at hR
    exact lp_readBoth hN0 hN1 hNe hcd hP hG (R := R) hok her _ 401 _ _ _ rfl (by omega) (by omega) (by omega) (by omega) (by omega) hR
  · obtain ⟨u10, u20⟩ := (hG tk lv (by omega) (by omega) (by omega) (by omega)).2 _ hF0
    have hck0 := hcd ta0 (by omega) (by omega)
    obtain ⟨hbz, hbz2⟩ := hck0.2.2
    rw [hF0] at hR
    simp only at hR
    refine j_aload_n d_Mod_readBoth_5 rfl ?_
    refine z_bipush d_Mod_readBoth_6 (by decide) ?_
    refine v_call1 d_Mod_readBoth_8 c_Mod_169 rfl ⟨_, rfl, rfl⟩ (Nat.le_of_ble_eq_true rfl) (b_Mod_takes0 hbz hbz2 ?_)
    refine z_if_eq (t := 22) d_Mod_readBoth_11 (by decide) (by first | omega | exact hw _ | exact hx _ _ | assumption) (fun _ => ?_) (fun h => absurd h (by decide))
    exact j_return rfl d_Mod_readBoth_22 (her _ hR.symm _)
theorem lp_readTest {g : Bool} {d : Nat} {Q : List xM → Option Value → Prop} {i0 i6 i8 i9 i10 i13 i14 i18 i22 i23 i24 i25 i27 i28 i33 i42 i43 i44 i45 i46 i47 i48 i51 i52 : Int} {x1 x2 x3 x4 x5 x7 x11 x12 x15 x16 x17 x26 x29 x30 x31 x32 x34 x35 x36 x37 x38 x39 x40 x41 x49 x50 : Int → Int} (hN0 : 0 ≤ i18) (hN1 : i18 ≤ 400) (hNe : x15 i18 = 0) (hcd : ∀ j, 0 ≤ j → j ≤ i18 → (0 ≤ x15 j ∧ x15 j ≤ 400) ∧ (0 ≤ x16 j ∧ x16 j ≤ 100000000) ∧ (0 ≤ x17 j ∧ x17 j ≤ 400)) {deep : Int} {FP : Int → Int → PR TXC} (hP : MR g m_Mod_readBoth (d + 4) deep i0 i6 i8 i9 i10 i13 i14 i18 i22 i23 i24 i25 i27 i28 i33 i42 i43 i44 i45 i46 i47 i48 i51 i52 x1 x2 x3 x4 x5 x7 x11 x12 x15 x16 x17 x26 x29 x30 x31 x32 x34 x35 x36 x37 x38 x39 x40 x41 x49 x50 FP) (hG : GP i18 FP) {R : PR TXC} (hok : ∀ a t l, R = .inl (a, t, l) → Q (MM i0 i6 i8 i9 i10 i13 i14 i18 t l (-1) i22 i23 i24 i25 i27 i28 i33 i42 i43 i44 i45 i46 i47 i48 i51 i52 x1 x2 x3 x4 x5 x7 x11 x12 x15 x16 x17 x26 x29 x30 x31 x32 x34 x35 x36 x37 x38 x39 x40 x41 x49 x50) none) (her : ∀ t, R = .inr t → ∀ l, Q (MM i0 i6 i8 i9 i10 i13 i14 i18 t l (x17 t) i22 i23 i24 i25 i27 i28 i33 i42 i43 i44 i45 i46 i47 i48 i51 i52 x1 x2 x3 x4 x5 x7 x11 x12 x15 x16 x17 x26 x29 x30 x31 x32 x34 x35 x36 x37 x38 x39 x40 x41 x49 x50) none)  : ∀ (nn : Nat) (k : Nat) (ee : TXC) (tk : Int) (lv : Int), ((k : Int)).toNat = nn → 1 ≤ tk → tk ≤ i18 → 0 ≤ lv → lv ≤ 50 → i18 - tk < (k : Int) → pLp x15 FP isOr (fun _ => orX) k ee tk lv = R → SJ g m_Mod_readTest (d + 5) 5 [some (.ref 0), some (.int (ii deep))] [] (MM i0 i6 i8 i9 i10 i13 i14 i18 tk lv (-1) i22 i23 i24 i25 i27 i28 i33 i42 i43 i44 i45 i46 i47 i48 i51 i52 x1 x2 x3 x4 x5 x7 x11 x12 x15 x16 x17 x26 x29 x30 x31 x32 x34 x35 x36 x37 x38 x39 x40 x41 x49 x50) 0 0 Q := by
  intro nn
  induction nn using Nat.strongRecOn with
  | ind nn ih =>
  intro k ee tk lv hn k0 k1 v0 v1 hk hR
  obtain ⟨k, rfl⟩ : ∃ j, k = j + 1 := ⟨k - 1, by omega⟩
  simp only [pLp] at hR
  have hck := hcd tk (by omega) (by omega)
  refine j_aload_n d_Mod_readTest_5 rfl ?_
  refine z_bipush d_Mod_readTest_6 (by decide) ?_
  refine v_call1 d_Mod_readTest_8 c_Mod_169 rfl ⟨_, rfl, rfl⟩ (Nat.le_of_ble_eq_true rfl) (t_Mod_takes0 hN0 hN1 hNe hcd (by omega) (by omega) (by omega) (fun h8 => ?_) (fun h8 => ?_))
  · refine z_if_eq (t := 22) d_Mod_readTest_11 (by decide) (by first | omega | exact hw _ | exact hx _ _ | assumption) (fun h => absurd h (by decide)) (fun _ => ?_)
    have hop : isOr (x15 tk) := by show x15 tk = 6; omega
    rw [if_pos hop] at hR
    have hne : tk ≠ i18 := fun e => (show x15 tk ≠ 0 by omega) (by rw [e]; exact hNe)
    refine j_aload_n d_Mod_readTest_14 rfl ?_
    refine j_iload_n d_Mod_readTest_15 rfl ?_
    refine v_call1 d_Mod_readTest_16 c_Mod_202 rfl ⟨_, rfl, rfl⟩ (Nat.le_of_ble_eq_true rfl) (hP _ _ _ (by omega) (by omega) (by omega) (by omega) (fun ea1 ta1 la1 hF1 => ?_) (fun ta1 hF1 la1 => ?_))
    · obtain ⟨u11, u21, u31, u41⟩ := (hG (tk + 1) lv (by omega) (by omega) (by omega) (by omega)).1 _ _ _ hF1
      have hck1 := hcd ta1 (by omega) (by omega)
      rw [hF1] at hR
      simp only at hR
      refine j_goto (t := 5) d_Mod_readTest_19 (by decide) ?_
      exact ih _ (by omega) _ _ _ _ rfl (by omega) (by omega) (by omega) (by omega) (by omega) hR
    · obtain ⟨u11, u21⟩ := (hG (tk + 1) lv (by omega) (by omega) (by omega) (by omega)).2 _ hF1
      have hck1 := hcd ta1 (by omega) (by omega)
      obtain ⟨hbz, hbz2⟩ := hck1.2.2
      rw [hF1] at hR
      simp only at hR
      refine j_goto (t := 5) d_Mod_readTest_19 (by decide) ?_
      refine j_aload_n d_Mod_readTest_5 rfl ?_
      refine z_bipush d_Mod_readTest_6 (by decide) ?_
      refine v_call1 d_Mod_readTest_8 c_Mod_169 rfl ⟨_, rfl, rfl⟩ (Nat.le_of_ble_eq_true rfl) (b_Mod_takes0 hbz hbz2 ?_)
      refine z_if_eq (t := 22) d_Mod_readTest_11 (by decide) (by first | omega | exact hw _ | exact hx _ _ | assumption) (fun _ => ?_) (fun h => absurd h (by decide))
      exact j_return rfl d_Mod_readTest_22 (her _ hR.symm _)
  · refine z_if_eq (t := 22) d_Mod_readTest_11 (by decide) (by first | omega | exact hw _ | exact hx _ _ | assumption) (fun _ => ?_) (fun h => absurd h (by decide))
    have hop : ¬ isOr (x15 tk) := by show ¬ (x15 tk = 6); omega
    rw [if_neg hop] at hR
    exact j_return rfl d_Mod_readTest_22 (hok _ _ _ hR.symm)
theorem t_Mod_readTest {g : Bool} {d : Nat} {Q : List xM → Option Value → Prop} {i0 i6 i8 i9 i10 i13 i14 i18 i22 i23 i24 i25 i27 i28 i33 i42 i43 i44 i45 i46 i47 i48 i51 i52 : Int} {x1 x2 x3 x4 x5 x7 x11 x12 x15 x16 x17 x26 x29 x30 x31 x32 x34 x35 x36 x37 x38 x39 x40 x41 x49 x50 : Int → Int} (hN0 : 0 ≤ i18) (hN1 : i18 ≤ 400) (hNe : x15 i18 = 0) (hcd : ∀ j, 0 ≤ j → j ≤ i18 → (0 ≤ x15 j ∧ x15 j ≤ 400) ∧ (0 ≤ x16 j ∧ x16 j ≤ 100000000) ∧ (0 ≤ x17 j ∧ x17 j ≤ 400)) {deep : Int} {FP : Int → Int → PR TXC} (hP : MR g m_Mod_readBoth (d + 4) deep i0 i6 i8 i9 i10 i13 i14 i18 i22 i23 i24 i25 i27 i28 i33 i42 i43 i44 i45 i46 i47 i48 i51 i52 x1 x2 x3 x4 x5 x7 x11 x12 x15 x16 x17 x26 x29 x30 x31 x32 x34 x35 x36 x37 x38 x39 x40 x41 x49 x50 FP) (hG : GP i18 FP) {tk lv : Int} (k0 : 1 ≤ tk) (k1 : tk ≤ i18) (v0 : 0 ≤ lv) (v1 : lv ≤ 50) (hok : ∀ a t l, pLV x15 FP isOr (fun _ => orX) tk lv = .inl (a, t, l) → Q (MM i0 i6 i8 i9 i10 i13 i14 i18 t l (-1) i22 i23 i24 i25 i27 i28 i33 i42 i43 i44 i45 i46 i47 i48 i51 i52 x1 x2 x3 x4 x5 x7 x11 x12 x15 x16 x17 x26 x29 x30 x31 x32 x34 x35 x36 x37 x38 x39 x40 x41 x49 x50) none) (her : ∀ t, pLV x15 FP isOr (fun _ => orX) tk lv = .inr t → ∀ l, Q (MM i0 i6 i8 i9 i10 i13 i14 i18 t l (x17 t) i22 i23 i24 i25 i27 i28 i33 i42 i43 i44 i45 i46 i47 i48 i51 i52 x1 x2 x3 x4 x5 x7 x11 x12 x15 x16 x17 x26 x29 x30 x31 x32 x34 x35 x36 x37 x38 x39 x40 x41 x49 x50) none)  : CT g m_Mod_readTest (d + 5) [.ref 0, .int (ii deep)] (MM i0 i6 i8 i9 i10 i13 i14 i18 tk lv (-1) i22 i23 i24 i25 i27 i28 i33 i42 i43 i44 i45 i46 i47 i48 i51 i52 x1 x2 x3 x4 x5 x7 x11 x12 x15 x16 x17 x26 x29 x30 x31 x32 x34 x35 x36 x37 x38 x39 x40 x41 x49 x50) 0 0 Q := by
  refine CT.of (by decide) (Nat.le_of_ble_eq_true rfl) ?_
  show SJ _ _ _ _ [some (.ref 0), some (.int (ii deep))] [] _ _ _ _
  generalize hR : pLV x15 FP isOr (fun _ => orX) tk lv = R at hok her
  unfold pLV at hR
  refine j_aload_n d_Mod_readTest_0 rfl ?_
  refine j_iload_n d_Mod_readTest_1 rfl ?_
  refine v_call1 d_Mod_readTest_2 c_Mod_202 rfl ⟨_, rfl, rfl⟩ (Nat.le_of_ble_eq_true rfl) (hP _ _ _ (by omega) (by omega) (by omega) (by omega) (fun ea0 ta0 la0 hF0 => ?_) (fun ta0 hF0 la0 => ?_))
  · obtain ⟨u10, u20, u30, u40⟩ := (hG tk lv (by omega) (by omega) (by omega) (by omega)).1 _ _ _ hF0
    have hck0 := hcd ta0 (by omega) (by omega)
    rw [hF0] at hR
    simp only at hR
    exact lp_readTest hN0 hN1 hNe hcd hP hG (R := R) hok her _ 401 _ _ _ rfl (by omega) (by omega) (by omega) (by omega) (by omega) hR
  · obtain ⟨u10, u20⟩ := (hG tk lv (by omega) (by omega) (by omega) (by omega)).2 _ hF0
    have hck0 := hcd ta0 (by omega) (by omega)
    obtain ⟨hbz, hbz2⟩ := hck0.2.2
    rw [hF0] at hR
    simp only at hR
    refine j_aload_n d_Mod_readTest_5 rfl ?_
    refine z_bipush d_Mod_readTest_6 (by decide) ?_
    refine v_call1 d_Mod_readTest_8 c_Mod_169 rfl ⟨_, rfl, rfl⟩ (Nat.le_of_ble_eq_true rfl) (b_Mod_takes0 hbz hbz2 ?_)
    refine z_if_eq (t := 22) d_Mod_readTest_11 (by decide) (by first | omega | exact hw _ | exact hx _ _ | assumption) (fun _ => ?_) (fun h => absurd h (by decide))
    exact j_return rfl d_Mod_readTest_22 (her _ hR.symm _)
