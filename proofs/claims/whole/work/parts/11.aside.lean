theorem lp_laysAside {g : Bool} {d : Nat} {Q : List xM → Option Value → Prop} {i0 i6 i8 i9 i10 i13 i14 i18 i19 i20 i21 i22 i23 i24 i25 i27 i28 i33 i42 i43 i44 i45 i46 i47 i48 i51 i52 : Int} {x1 x2 x3 x4 x5 x7 x11 x12 x15 x16 x17 x26 x29 x30 x31 x32 x34 x35 x36 x37 x38 x39 x40 x41 x49 x50 : Int → Int} {k : Int} (h1 : 0 ≤ k) (h2 : k ≤ 1) (hQ : Q (MM i0 i6 i8 i9 i10 i13 i14 i18 i19 i20 i21 i22 i23 i24 i25 i27 i28 i33 i42 i43 i44 i45 i46 i47 i48 i51 i52 x1 x2 x3 x4 (cpy x2 x5 0 (22 * k) 22) x7 x11 x12 x15 x16 x17 x26 x29 x30 x31 x32 x34 x35 x36 x37 x38 x39 x40 x41 x49 x50) none) : ∀ (nn : Nat) (j : Int), (22 - j).toNat = nn → 0 ≤ j → j ≤ 22 → SJ g m_Mod_laysAside d 2 [some (.ref 0), some (.int (ii k)), some (.int (ii j))] [] (MM i0 i6 i8 i9 i10 i13 i14 i18 i19 i20 i21 i22 i23 i24 i25 i27 i28 i33 i42 i43 i44 i45 i46 i47 i48 i51 i52 x1 x2 x3 x4 (cpy x2 x5 0 (22 * k) j) x7 x11 x12 x15 x16 x17 x26 x29 x30 x31 x32 x34 x35 x36 x37 x38 x39 x40 x41 x49 x50) 0 0 Q := by
  intro nn
  induction nn using Nat.strongRecOn with
  | ind nn ih =>
  intro j hn a1 a2
  refine j_iload_n d_Mod_laysAside_2 rfl ?_
  refine z_bipush d_Mod_laysAside_3 (by decide) ?_
  refine z_icmp_ge (t := 31) d_Mod_laysAside_5 (by decide) (by first | omega | exact hw _ | exact hx _ _ | assumption) (by first | omega | exact hw _ | exact hx _ _ | assumption) (fun h5 => ?_) (fun h5 => ?_)
  · have e : j = 22 := by omega
    subst e
    exact j_return rfl d_Mod_laysAside_31 hQ
  · refine j_aload_n d_Mod_laysAside_8 rfl ?_
    refine mg_aside f_Mod_42 d_Mod_laysAside_9 ?_
    refine z_bipush d_Mod_laysAside_12 (by decide) ?_
    refine j_iload_n d_Mod_laysAside_14 rfl ?_
    refine z_imul d_Mod_laysAside_15 ?_
    refine j_iload_n d_Mod_laysAside_16 rfl ?_
    refine z_iadd d_Mod_laysAside_17 ?_
    refine j_aload_n d_Mod_laysAside_18 rfl ?_
    refine mg_kept f_Mod_32 d_Mod_laysAside_19 ?_
    refine j_iload_n d_Mod_laysAside_22 rfl ?_
    refine ml_kept d_Mod_laysAside_23 (by omega) (by omega) ?_
    refine ms_aside d_Mod_laysAside_24 (by omega) (by omega) ?_
    rw [cpy_s (sp := 0) a1 rfl (by simp)]
    refine z_iinc d_Mod_laysAside_25 rfl (by decide) ?_
    show SJ _ _ _ _ [_, _, _] _ _ _ _ _
    refine j_goto (t := 2) d_Mod_laysAside_28 (by decide) ?_
    exact ih _ (by omega) _ rfl (by omega) (by omega)
theorem t_Mod_laysAside {g : Bool} {d : Nat} {Q : List xM → Option Value → Prop} {i0 i6 i8 i9 i10 i13 i14 i18 i19 i20 i21 i22 i23 i24 i25 i27 i28 i33 i42 i43 i44 i45 i46 i47 i48 i51 i52 : Int} {x1 x2 x3 x4 x5 x7 x11 x12 x15 x16 x17 x26 x29 x30 x31 x32 x34 x35 x36 x37 x38 x39 x40 x41 x49 x50 : Int → Int} {k : Int} (h1 : 0 ≤ k) (h2 : k ≤ 1) (hQ : Q (MM i0 i6 i8 i9 i10 i13 i14 i18 i19 i20 i21 i22 i23 i24 i25 i27 i28 i33 i42 i43 i44 i45 i46 i47 i48 i51 i52 x1 x2 x3 x4 (cpy x2 x5 0 (22 * k) 22) x7 x11 x12 x15 x16 x17 x26 x29 x30 x31 x32 x34 x35 x36 x37 x38 x39 x40 x41 x49 x50) none) : CT g m_Mod_laysAside d [.ref 0, .int (ii k)] (MM i0 i6 i8 i9 i10 i13 i14 i18 i19 i20 i21 i22 i23 i24 i25 i27 i28 i33 i42 i43 i44 i45 i46 i47 i48 i51 i52 x1 x2 x3 x4 x5 x7 x11 x12 x15 x16 x17 x26 x29 x30 x31 x32 x34 x35 x36 x37 x38 x39 x40 x41 x49 x50) 0 0 Q := by
  refine CT.of (by decide) (Nat.le_of_ble_eq_true rfl) ?_
  show SJ _ _ _ _ [some (.ref 0), some (.int (ii k)), none] [] _ _ _ _
  refine z_iconst d_Mod_laysAside_0 ?_
  refine j_istore_n d_Mod_laysAside_1 (by decide) ?_
  show SJ _ _ _ _ [_, _, _] _ _ _ _ _
  have q := lp_laysAside (d := d) (g := g) h1 h2 hQ _ 0 rfl (by omega) (by omega)
  rw [cpy_0] at q
  exact q
theorem lp_takesBack {g : Bool} {d : Nat} {Q : List xM → Option Value → Prop} {i0 i6 i8 i9 i10 i13 i14 i18 i19 i20 i21 i22 i23 i24 i25 i27 i28 i33 i42 i43 i44 i45 i46 i47 i48 i51 i52 : Int} {x1 x2 x3 x4 x5 x7 x11 x12 x15 x16 x17 x26 x29 x30 x31 x32 x34 x35 x36 x37 x38 x39 x40 x41 x49 x50 : Int → Int} {k : Int} (h1 : 0 ≤ k) (h2 : k ≤ 1) (hQ : Q (MM i0 i6 i8 i9 i10 i13 i14 i18 i19 i20 i21 i22 i23 i24 i25 i27 i28 i33 i42 i43 i44 i45 i46 i47 i48 i51 i52 x1 (cpy x5 x2 (22 * k) 0 22) x3 x4 x5 x7 x11 x12 x15 x16 x17 x26 x29 x30 x31 x32 x34 x35 x36 x37 x38 x39 x40 x41 x49 x50) none) : ∀ (nn : Nat) (j : Int), (22 - j).toNat = nn → 0 ≤ j → j ≤ 22 → SJ g m_Mod_takesBack d 2 [some (.ref 0), some (.int (ii k)), some (.int (ii j))] [] (MM i0 i6 i8 i9 i10 i13 i14 i18 i19 i20 i21 i22 i23 i24 i25 i27 i28 i33 i42 i43 i44 i45 i46 i47 i48 i51 i52 x1 (cpy x5 x2 (22 * k) 0 j) x3 x4 x5 x7 x11 x12 x15 x16 x17 x26 x29 x30 x31 x32 x34 x35 x36 x37 x38 x39 x40 x41 x49 x50) 0 0 Q := by
  intro nn
  induction nn using Nat.strongRecOn with
  | ind nn ih =>
  intro j hn a1 a2
  refine j_iload_n d_Mod_takesBack_2 rfl ?_
  refine z_bipush d_Mod_takesBack_3 (by decide) ?_
  refine z_icmp_ge (t := 31) d_Mod_takesBack_5 (by decide) (by first | omega | exact hw _ | exact hx _ _ | assumption) (by first | omega | exact hw _ | exact hx _ _ | assumption) (fun h5 => ?_) (fun h5 => ?_)
  · have e : j = 22 := by omega
    subst e
    exact j_return rfl d_Mod_takesBack_31 hQ
  · refine j_aload_n d_Mod_takesBack_8 rfl ?_
    refine mg_kept f_Mod_32 d_Mod_takesBack_9 ?_
    refine j_iload_n d_Mod_takesBack_12 rfl ?_
    refine j_aload_n d_Mod_takesBack_13 rfl ?_
    refine mg_aside f_Mod_42 d_Mod_takesBack_14 ?_
    refine z_bipush d_Mod_takesBack_17 (by decide) ?_
    refine j_iload_n d_Mod_takesBack_19 rfl ?_
    refine z_imul d_Mod_takesBack_20 ?_
    refine j_iload_n d_Mod_takesBack_21 rfl ?_
    refine z_iadd d_Mod_takesBack_22 ?_
    refine ml_aside d_Mod_takesBack_23 (by omega) (by omega) ?_
    refine ms_kept d_Mod_takesBack_24 (by omega) (by omega) ?_
    rw [cpy_s (dp := 0) a1 (by simp) rfl]
    refine z_iinc d_Mod_takesBack_25 rfl (by decide) ?_
    show SJ _ _ _ _ [_, _, _] _ _ _ _ _
    refine j_goto (t := 2) d_Mod_takesBack_28 (by decide) ?_
    exact ih _ (by omega) _ rfl (by omega) (by omega)
theorem t_Mod_takesBack {g : Bool} {d : Nat} {Q : List xM → Option Value → Prop} {i0 i6 i8 i9 i10 i13 i14 i18 i19 i20 i21 i22 i23 i24 i25 i27 i28 i33 i42 i43 i44 i45 i46 i47 i48 i51 i52 : Int} {x1 x2 x3 x4 x5 x7 x11 x12 x15 x16 x17 x26 x29 x30 x31 x32 x34 x35 x36 x37 x38 x39 x40 x41 x49 x50 : Int → Int} {k : Int} (h1 : 0 ≤ k) (h2 : k ≤ 1) (hQ : Q (MM i0 i6 i8 i9 i10 i13 i14 i18 i19 i20 i21 i22 i23 i24 i25 i27 i28 i33 i42 i43 i44 i45 i46 i47 i48 i51 i52 x1 (cpy x5 x2 (22 * k) 0 22) x3 x4 x5 x7 x11 x12 x15 x16 x17 x26 x29 x30 x31 x32 x34 x35 x36 x37 x38 x39 x40 x41 x49 x50) none) : CT g m_Mod_takesBack d [.ref 0, .int (ii k)] (MM i0 i6 i8 i9 i10 i13 i14 i18 i19 i20 i21 i22 i23 i24 i25 i27 i28 i33 i42 i43 i44 i45 i46 i47 i48 i51 i52 x1 x2 x3 x4 x5 x7 x11 x12 x15 x16 x17 x26 x29 x30 x31 x32 x34 x35 x36 x37 x38 x39 x40 x41 x49 x50) 0 0 Q := by
  refine CT.of (by decide) (Nat.le_of_ble_eq_true rfl) ?_
  show SJ _ _ _ _ [some (.ref 0), some (.int (ii k)), none] [] _ _ _ _
  refine z_iconst d_Mod_takesBack_0 ?_
  refine j_istore_n d_Mod_takesBack_1 (by decide) ?_
  show SJ _ _ _ _ [_, _, _] _ _ _ _ _
  have q := lp_takesBack (d := d) (g := g) h1 h2 hQ _ 0 rfl (by omega) (by omega)
  rw [cpy_0] at q
  exact q
theorem lp_image {g : Bool} {d : Nat} {Q : List xM → Option Value → Prop} {i0 i6 i8 i9 i10 i13 i14 i18 i19 i20 i21 i22 i23 i24 i25 i27 i28 i33 i42 i43 i44 i45 i46 i47 i48 i51 i52 : Int} {x1 x2 x3 x4 x5 x7 x11 x12 x15 x16 x17 x26 x29 x30 x31 x32 x34 x35 x36 x37 x38 x39 x40 x41 x49 x50 : Int → Int} {k : Int} (h1 : 0 ≤ k) (h2 : k ≤ 1) (hQ : Q (MM 0 i6 i8 i9 i10 i13 i14 i18 i19 i20 i21 i22 i23 i24 i25 i27 i28 i33 i42 i43 i44 i45 i46 i47 i48 i51 i52 x1 x2 (cpy x2 x3 0 (5633 * k) 5633) (up x4 k 1) x5 x7 x11 x12 x15 x16 x17 x26 x29 x30 x31 x32 x34 x35 x36 x37 x38 x39 x40 x41 x49 x50) (some (.int (ii 0)))) : ∀ (nn : Nat) (j : Int), (5633 - j).toNat = nn → 0 ≤ j → j ≤ 5633 → SJ g m_Mod_image (d + 1) 17 [some (.ref 0), some (.int (ii k)), some (.int (ii j))] [] (MM i0 i6 i8 i9 i10 i13 i14 i18 i19 i20 i21 i22 i23 i24 i25 i27 i28 i33 i42 i43 i44 i45 i46 i47 i48 i51 i52 x1 x2 (cpy x2 x3 0 (5633 * k) j) x4 x5 x7 x11 x12 x15 x16 x17 x26 x29 x30 x31 x32 x34 x35 x36 x37 x38 x39 x40 x41 x49 x50) 0 0 Q := by
  intro nn
  induction nn using Nat.strongRecOn with
  | ind nn ih =>
  intro j hn a1 a2
  refine j_iload_n d_Mod_image_17 rfl ?_
  refine z_sipush d_Mod_image_18 (by decide) ?_
  refine z_icmp_ge (t := 48) d_Mod_image_21 (by decide) (by first | omega | exact hw _ | exact hx _ _ | assumption) (by first | omega | exact hw _ | exact hx _ _ | assumption) (fun h21 => ?_) (fun h21 => ?_)
  · have e : j = 5633 := by omega
    subst e
    refine j_aload_n d_Mod_image_48 rfl ?_
    refine mg_hasImage f_Mod_38 d_Mod_image_49 ?_
    refine j_iload_n d_Mod_image_52 rfl ?_
    refine z_iconst d_Mod_image_53 ?_
    refine ms_hasImage d_Mod_image_54 (by omega) (by omega) (by first | exact Or.inl rfl | exact Or.inr rfl | assumption | omega) ?_
    refine j_aload_n d_Mod_image_55 rfl ?_
    refine z_iconst d_Mod_image_56 ?_
    refine v_call1 d_Mod_image_57 c_Mod_14 rfl ⟨_, rfl, rfl⟩ (Nat.le_of_ble_eq_true rfl) (t_Mod_good  ?_)
    exact z_iret rfl d_Mod_image_60 (by first | rfl | omega | simp_all) hQ
  · refine j_aload_n d_Mod_image_24 rfl ?_
    refine mg_images f_Mod_35 d_Mod_image_25 ?_
    refine z_sipush d_Mod_image_28 (by decide) ?_
    refine j_iload_n d_Mod_image_31 rfl ?_
    refine z_imul d_Mod_image_32 ?_
    refine j_iload_n d_Mod_image_33 rfl ?_
    refine z_iadd d_Mod_image_34 ?_
    refine j_aload_n d_Mod_image_35 rfl ?_
    refine mg_kept f_Mod_32 d_Mod_image_36 ?_
    refine j_iload_n d_Mod_image_39 rfl ?_
    refine ml_kept d_Mod_image_40 (by omega) (by omega) ?_
    refine ms_images d_Mod_image_41 (by omega) (by omega) ?_
    rw [cpy_s (sp := 0) a1 rfl (by simp)]
    refine z_iinc d_Mod_image_42 rfl (by decide) ?_
    show SJ _ _ _ _ [_, _, _] _ _ _ _ _
    refine j_goto (t := 17) d_Mod_image_45 (by decide) ?_
    exact ih _ (by omega) _ rfl (by omega) (by omega)
theorem t_Mod_image {g : Bool} {d : Nat} {Q : List xM → Option Value → Prop} {i0 i6 i8 i9 i10 i13 i14 i18 i19 i20 i21 i22 i23 i24 i25 i27 i28 i33 i42 i43 i44 i45 i46 i47 i48 i51 i52 : Int} {x1 x2 x3 x4 x5 x7 x11 x12 x15 x16 x17 x26 x29 x30 x31 x32 x34 x35 x36 x37 x38 x39 x40 x41 x49 x50 : Int → Int} {k : Int} (r1 : R32 k) (ht : 0 ≤ k ∧ k ≤ 1 → Q (MM 0 i6 i8 i9 i10 i13 i14 i18 i19 i20 i21 i22 i23 i24 i25 i27 i28 i33 i42 i43 i44 i45 i46 i47 i48 i51 i52 x1 x2 (cpy x2 x3 0 (5633 * k) 5633) (up x4 k 1) x5 x7 x11 x12 x15 x16 x17 x26 x29 x30 x31 x32 x34 x35 x36 x37 x38 x39 x40 x41 x49 x50) (some (.int (ii 0)))) (hf : ¬ (0 ≤ k ∧ k ≤ 1) → Q (MM (-1) i6 i8 i9 i10 i13 i14 i18 i19 i20 i21 i22 i23 i24 i25 i27 i28 i33 i42 i43 i44 i45 i46 i47 i48 i51 i52 (up x1 (0 - (-1)) (x1 (0 - (-1)) + 1)) x2 x3 x4 x5 x7 x11 x12 x15 x16 x17 x26 x29 x30 x31 x32 x34 x35 x36 x37 x38 x39 x40 x41 x49 x50) (some (.int (ii (-1))))) : CT g m_Mod_image (d + 1) [.ref 0, .int (ii k)] (MM i0 i6 i8 i9 i10 i13 i14 i18 i19 i20 i21 i22 i23 i24 i25 i27 i28 i33 i42 i43 i44 i45 i46 i47 i48 i51 i52 x1 x2 x3 x4 x5 x7 x11 x12 x15 x16 x17 x26 x29 x30 x31 x32 x34 x35 x36 x37 x38 x39 x40 x41 x49 x50) 0 0 Q := by
  refine CT.of (by decide) (Nat.le_of_ble_eq_true rfl) ?_
  show SJ _ _ _ _ [some (.ref 0), some (.int (ii k)), none] [] _ _ _ _
  refine j_iload_n d_Mod_image_0 rfl ?_
  refine z_iconst d_Mod_image_1 ?_
  refine z_iconst d_Mod_image_2 ?_
  refine s_call3 d_Mod_image_3 c_Mod_18 (Nat.le_of_ble_eq_true rfl) (t_Mod_lies (by first | omega | exact hw _ | exact hx _ _ | assumption) (by first | omega | exact hw _ | exact hx _ _ | assumption) (by first | omega | exact hw _ | exact hx _ _ | assumption) (fun h3 => ?_) (fun h3 => ?_))
  · refine z_if_ne (t := 15) d_Mod_image_6 (by decide) (by first | omega | exact hw _ | exact hx _ _ | assumption) (fun _ => ?_) (fun h => absurd h (by decide))
    refine z_iconst d_Mod_image_15 ?_
    refine j_istore_n d_Mod_image_16 (by decide) ?_
    show SJ _ _ _ _ [_, _, _] _ _ _ _ _
    have q := lp_image (d := d) (g := g) (i0 := i0) (by omega) (by omega) (ht (by omega)) _ 0 rfl (by omega) (by omega)
    rw [cpy_0] at q
    exact q
  · refine z_if_ne (t := 15) d_Mod_image_6 (by decide) (by first | omega | exact hw _ | exact hx _ _ | assumption) (fun h => absurd h (by decide)) (fun _ => ?_)
    refine j_aload_n d_Mod_image_9 rfl ?_
    refine z_iconst d_Mod_image_10 ?_
    refine v_call1 d_Mod_image_11 c_Mod_119 rfl ⟨_, rfl, rfl⟩ (Nat.le_of_ble_eq_true rfl) (t_Mod_refuses (by omega) (by omega) ?_)
    exact z_iret rfl d_Mod_image_14 (by first | rfl | omega | simp_all) (hf (by omega))
theorem lp_back {g : Bool} {d : Nat} {Q : List xM → Option Value → Prop} {i0 i6 i8 i9 i10 i13 i14 i18 i19 i20 i21 i22 i23 i24 i25 i27 i28 i33 i42 i43 i44 i45 i46 i47 i48 i51 i52 : Int} {x1 x2 x3 x4 x5 x7 x11 x12 x15 x16 x17 x26 x29 x30 x31 x32 x34 x35 x36 x37 x38 x39 x40 x41 x49 x50 : Int → Int} {k : Int} (h1 : 0 ≤ k) (h2 : k ≤ 1) (hQ : Q (MM 0 i6 i8 i9 i10 i13 i14 i18 i19 i20 i21 i22 i23 i24 i25 i27 i28 0 i42 i43 i44 i45 i46 i47 i48 i51 i52 x1 (cpy x3 x2 (5633 * k) 0 5633) x3 x4 x5 x7 x11 x12 x15 x16 x17 x26 x29 x30 x31 x32 x34 x35 x36 x37 x38 x39 x40 x41 x49 x50) (some (.int (ii 0)))) : ∀ (nn : Nat) (j : Int), (5633 - j).toNat = nn → 0 ≤ j → j ≤ 5633 → SJ g m_Mod_back (d + 2) 33 [some (.ref 0), some (.int (ii k)), some (.int (ii j))] [] (MM i0 i6 i8 i9 i10 i13 i14 i18 i19 i20 i21 i22 i23 i24 i25 i27 i28 i33 i42 i43 i44 i45 i46 i47 i48 i51 i52 x1 (cpy x3 x2 (5633 * k) 0 j) x3 x4 x5 x7 x11 x12 x15 x16 x17 x26 x29 x30 x31 x32 x34 x35 x36 x37 x38 x39 x40 x41 x49 x50) 0 0 Q := by
  intro nn
  induction nn using Nat.strongRecOn with
  | ind nn ih =>
  intro j hn a1 a2
  refine j_iload_n d_Mod_back_33 rfl ?_
  refine z_sipush d_Mod_back_34 (by decide) ?_
  refine z_icmp_ge (t := 64) d_Mod_back_37 (by decide) (by first | omega | exact hw _ | exact hx _ _ | assumption) (by first | omega | exact hw _ | exact hx _ _ | assumption) (fun h37 => ?_) (fun h37 => ?_)
  · have e : j = 5633 := by omega
    subst e
    refine j_aload_n d_Mod_back_64 rfl ?_
    refine z_iconst d_Mod_back_65 ?_
    refine v_call1 d_Mod_back_66 c_Mod_122 rfl ⟨_, rfl, rfl⟩ (Nat.le_of_ble_eq_true rfl) (t_Mod_settled  ?_)
    exact z_iret rfl d_Mod_back_69 (by first | rfl | omega | simp_all) hQ
  · refine j_aload_n d_Mod_back_40 rfl ?_
    refine mg_kept f_Mod_32 d_Mod_back_41 ?_
    refine j_iload_n d_Mod_back_44 rfl ?_
    refine j_aload_n d_Mod_back_45 rfl ?_
    refine mg_images f_Mod_35 d_Mod_back_46 ?_
    refine z_sipush d_Mod_back_49 (by decide) ?_
    refine j_iload_n d_Mod_back_52 rfl ?_
    refine z_imul d_Mod_back_53 ?_
    refine j_iload_n d_Mod_back_54 rfl ?_
    refine z_iadd d_Mod_back_55 ?_
    refine ml_images d_Mod_back_56 (by omega) (by omega) ?_
    refine ms_kept d_Mod_back_57 (by omega) (by omega) ?_
    rw [cpy_s (dp := 0) a1 (by simp) rfl]
    refine z_iinc d_Mod_back_58 rfl (by decide) ?_
    show SJ _ _ _ _ [_, _, _] _ _ _ _ _
    refine j_goto (t := 33) d_Mod_back_61 (by decide) ?_
    exact ih _ (by omega) _ rfl (by omega) (by omega)
theorem t_Mod_back {g : Bool} {d : Nat} {Q : List xM → Option Value → Prop} {i0 i6 i8 i9 i10 i13 i14 i18 i19 i20 i21 i22 i23 i24 i25 i27 i28 i33 i42 i43 i44 i45 i46 i47 i48 i51 i52 : Int} {x1 x2 x3 x4 x5 x7 x11 x12 x15 x16 x17 x26 x29 x30 x31 x32 x34 x35 x36 x37 x38 x39 x40 x41 x49 x50 : Int → Int} {k : Int} (r1 : R32 k) (r4 : ∀ j, R32 (x4 j)) (ht : 0 ≤ k ∧ k ≤ 1 → x4 k ≠ 0 → Q (MM 0 i6 i8 i9 i10 i13 i14 i18 i19 i20 i21 i22 i23 i24 i25 i27 i28 0 i42 i43 i44 i45 i46 i47 i48 i51 i52 x1 (cpy x3 x2 (5633 * k) 0 5633) x3 x4 x5 x7 x11 x12 x15 x16 x17 x26 x29 x30 x31 x32 x34 x35 x36 x37 x38 x39 x40 x41 x49 x50) (some (.int (ii 0)))) (h2 : 0 ≤ k ∧ k ≤ 1 → x4 k = 0 → Q (MM (-2) i6 i8 i9 i10 i13 i14 i18 i19 i20 i21 i22 i23 i24 i25 i27 i28 i33 i42 i43 i44 i45 i46 i47 i48 i51 i52 (up x1 (0 - (-2)) (x1 (0 - (-2)) + 1)) x2 x3 x4 x5 x7 x11 x12 x15 x16 x17 x26 x29 x30 x31 x32 x34 x35 x36 x37 x38 x39 x40 x41 x49 x50) (some (.int (ii (-2))))) (hf : ¬ (0 ≤ k ∧ k ≤ 1) → Q (MM (-1) i6 i8 i9 i10 i13 i14 i18 i19 i20 i21 i22 i23 i24 i25 i27 i28 i33 i42 i43 i44 i45 i46 i47 i48 i51 i52 (up x1 (0 - (-1)) (x1 (0 - (-1)) + 1)) x2 x3 x4 x5 x7 x11 x12 x15 x16 x17 x26 x29 x30 x31 x32 x34 x35 x36 x37 x38 x39 x40 x41 x49 x50) (some (.int (ii (-1))))) : CT g m_Mod_back (d + 2) [.ref 0, .int (ii k)] (MM i0 i6 i8 i9 i10 i13 i14 i18 i19 i20 i21 i22 i23 i24 i25 i27 i28 i33 i42 i43 i44 i45 i46 i47 i48 i51 i52 x1 x2 x3 x4 x5 x7 x11 x12 x15 x16 x17 x26 x29 x30 x31 x32 x34 x35 x36 x37 x38 x39 x40 x41 x49 x50) 0 0 Q := by
  refine CT.of (by decide) (Nat.le_of_ble_eq_true rfl) ?_
  show SJ _ _ _ _ [some (.ref 0), some (.int (ii k)), none] [] _ _ _ _
  refine j_iload_n d_Mod_back_0 rfl ?_
  refine z_iconst d_Mod_back_1 ?_
  refine z_iconst d_Mod_back_2 ?_
  refine s_call3 d_Mod_back_3 c_Mod_18 (Nat.le_of_ble_eq_true rfl) (t_Mod_lies (by first | omega | exact hw _ | exact hx _ _ | assumption) (by first | omega | exact hw _ | exact hx _ _ | assumption) (by first | omega | exact hw _ | exact hx _ _ | assumption) (fun h3 => ?_) (fun h3 => ?_))
  · refine z_if_ne (t := 15) d_Mod_back_6 (by decide) (by first | omega | exact hw _ | exact hx _ _ | assumption) (fun _ => ?_) (fun h => absurd h (by decide))
    refine j_aload_n d_Mod_back_15 rfl ?_
    refine mg_hasImage f_Mod_38 d_Mod_back_16 ?_
    refine j_iload_n d_Mod_back_19 rfl ?_
    refine ml_hasImage d_Mod_back_20 (by omega) (by omega) ?_
    refine z_if_ne (t := 31) d_Mod_back_21 (by decide) (r4 _) (fun h21 => ?_) (fun h21 => ?_)
    · refine z_iconst d_Mod_back_31 ?_
      refine j_istore_n d_Mod_back_32 (by decide) ?_
      show SJ _ _ _ _ [_, _, _] _ _ _ _ _
      have q := lp_back (d := d) (g := g) (i0 := i0) (i33 := i33) (by omega) (by omega) (ht (by omega) (by omega)) _ 0 rfl (by omega) (by omega)
      rw [cpy_0] at q
      exact q
    · refine j_aload_n d_Mod_back_24 rfl ?_
      refine z_bipush d_Mod_back_25 (by decide) ?_
      refine v_call1 d_Mod_back_27 c_Mod_119 rfl ⟨_, rfl, rfl⟩ (Nat.le_of_ble_eq_true rfl) (t_Mod_refuses (by omega) (by omega) ?_)
      exact z_iret rfl d_Mod_back_30 (by first | rfl | omega | simp_all) (h2 (by omega) (by omega))
  · refine z_if_ne (t := 15) d_Mod_back_6 (by decide) (by first | omega | exact hw _ | exact hx _ _ | assumption) (fun h => absurd h (by decide)) (fun _ => ?_)
    refine j_aload_n d_Mod_back_9 rfl ?_
    refine z_iconst d_Mod_back_10 ?_
    refine v_call1 d_Mod_back_11 c_Mod_119 rfl ⟨_, rfl, rfl⟩ (Nat.le_of_ble_eq_true rfl) (t_Mod_refuses (by omega) (by omega) ?_)
    exact z_iret rfl d_Mod_back_14 (by first | rfl | omega | simp_all) (hf (by omega))
theorem t_Mod_isTerm {g : Bool} {d : Nat} {Q : List xM → Option Value → Prop} {mem : List xM} {what value : Int} (r1 : R32 what) (r2 : R32 value) (ht : (what = 0 ∧ 0 ≤ value ∧ value ≤ 999) ∨ (what = 1 ∧ 1 ≤ value ∧ value ≤ 9) ∨ (what = 2 ∧ 0 ≤ value ∧ value ≤ 9) → Q mem (some (.int (ii 1)))) (hf : ¬ ((what = 0 ∧ 0 ≤ value ∧ value ≤ 999) ∨ (what = 1 ∧ 1 ≤ value ∧ value ≤ 9) ∨ (what = 2 ∧ 0 ≤ value ∧ value ≤ 9)) → Q mem (some (.int (ii 0)))) : CT g m_Mod_isTerm (d + 1) [.int (ii what), .int (ii value)] mem 0 0 Q := by
  refine CT.of (by decide) (Nat.le_of_ble_eq_true rfl) ?_
  show SJ _ _ _ _ [some (.int (ii what)), some (.int (ii value))] [] _ _ _ _
  refine j_iload_n d_Mod_isTerm_0 rfl ?_
  refine z_case (0) (fun h1_0 => ?_) (fun h1_0 => ?_)
  · refine z_tabIn (t := 28) (o := 27) d_Mod_isTerm_1 (by first | omega | exact hw _ | exact hx _ _ | assumption) (by omega) (by omega) (by rw [h1_0]; rfl) (by decide) ?_
    refine j_iload_n d_Mod_isTerm_28 rfl ?_
    refine z_iconst d_Mod_isTerm_29 ?_
    refine z_sipush d_Mod_isTerm_30 (by decide) ?_
    refine s_call3 d_Mod_isTerm_33 c_Mod_18 (Nat.le_of_ble_eq_true rfl) (t_Mod_lies (by first | omega | exact hw _ | exact hx _ _ | assumption) (by first | omega | exact hw _ | exact hx _ _ | assumption) (by first | omega | exact hw _ | exact hx _ _ | assumption) (fun h33 => ?_) (fun h33 => ?_))
    · exact z_zreturn rfl (Or.inr rfl) d_Mod_isTerm_36 (ht (by first | omega | simp_all))
    · exact z_zreturn rfl (Or.inl rfl) d_Mod_isTerm_36 (hf (by first | omega | simp_all))
  refine z_case (1) (fun h1_1 => ?_) (fun h1_1 => ?_)
  · refine z_tabIn (t := 37) (o := 36) d_Mod_isTerm_1 (by first | omega | exact hw _ | exact hx _ _ | assumption) (by omega) (by omega) (by rw [h1_1]; rfl) (by decide) ?_
    refine j_iload_n d_Mod_isTerm_37 rfl ?_
    refine z_iconst d_Mod_isTerm_38 ?_
    refine z_bipush d_Mod_isTerm_39 (by decide) ?_
    refine s_call3 d_Mod_isTerm_41 c_Mod_18 (Nat.le_of_ble_eq_true rfl) (t_Mod_lies (by first | omega | exact hw _ | exact hx _ _ | assumption) (by first | omega | exact hw _ | exact hx _ _ | assumption) (by first | omega | exact hw _ | exact hx _ _ | assumption) (fun h41 => ?_) (fun h41 => ?_))
    · exact z_zreturn rfl (Or.inr rfl) d_Mod_isTerm_44 (ht (by first | omega | simp_all))
    · exact z_zreturn rfl (Or.inl rfl) d_Mod_isTerm_44 (hf (by first | omega | simp_all))
  refine z_case (2) (fun h1_2 => ?_) (fun h1_2 => ?_)
  · refine z_tabIn (t := 45) (o := 44) d_Mod_isTerm_1 (by first | omega | exact hw _ | exact hx _ _ | assumption) (by omega) (by omega) (by rw [h1_2]; rfl) (by decide) ?_
    refine j_iload_n d_Mod_isTerm_45 rfl ?_
    refine z_iconst d_Mod_isTerm_46 ?_
    refine z_bipush d_Mod_isTerm_47 (by decide) ?_
    refine s_call3 d_Mod_isTerm_49 c_Mod_18 (Nat.le_of_ble_eq_true rfl) (t_Mod_lies (by first | omega | exact hw _ | exact hx _ _ | assumption) (by first | omega | exact hw _ | exact hx _ _ | assumption) (by first | omega | exact hw _ | exact hx _ _ | assumption) (fun h49 => ?_) (fun h49 => ?_))
    · exact z_zreturn rfl (Or.inr rfl) d_Mod_isTerm_52 (ht (by first | omega | simp_all))
    · exact z_zreturn rfl (Or.inl rfl) d_Mod_isTerm_52 (hf (by first | omega | simp_all))
  refine z_tabOut (t := 53) d_Mod_isTerm_1 (by first | omega | exact hw _ | exact hx _ _ | assumption) (by omega) (by decide) ?_
  refine z_iconst d_Mod_isTerm_53 ?_
  exact z_zreturn rfl (Or.inl rfl) d_Mod_isTerm_54 (hf (by first | omega | simp_all))
theorem t_Mod_termAt {g : Bool} {d : Nat} {Q : List xM → Option Value → Prop} {mem : List xM} {what : Int} (h1 : 0 ≤ what) (h2 : what ≤ 2) (hQ : Q mem (some (.int (ii (21 + what))))) : CT g m_Mod_termAt d [.int (ii what)] mem 0 0 Q := by
  refine CT.of (by decide) (Nat.le_of_ble_eq_true rfl) ?_
  show SJ _ _ _ _ [some (.int (ii what))] [] _ _ _ _
  refine j_iload_n d_Mod_termAt_0 rfl ?_
  refine z_if_ne (t := 9) d_Mod_termAt_1 (by decide) (by first | omega | exact hw _ | exact hx _ _ | assumption) (fun h1 => ?_) (fun h1 => ?_)
  · refine j_iload_n d_Mod_termAt_9 rfl ?_
    refine z_iconst d_Mod_termAt_10 ?_
    refine z_icmp_ne (t := 19) d_Mod_termAt_11 (by decide) (by first | omega | exact hw _ | exact hx _ _ | assumption) (by first | omega | exact hw _ | exact hx _ _ | assumption) (fun h11 => ?_) (fun h11 => ?_)
    · refine z_bipush d_Mod_termAt_19 (by decide) ?_
      exact z_iret rfl d_Mod_termAt_21 (by first | rfl | omega | simp_all) hQ
    · refine z_bipush d_Mod_termAt_14 (by decide) ?_
      refine j_goto (t := 21) d_Mod_termAt_16 (by decide) ?_
      exact z_iret rfl d_Mod_termAt_21 (by first | rfl | omega | simp_all) hQ
  · refine z_bipush d_Mod_termAt_4 (by decide) ?_
    refine j_goto (t := 21) d_Mod_termAt_6 (by decide) ?_
    exact z_iret rfl d_Mod_termAt_21 (by first | rfl | omega | simp_all) hQ
theorem t_Mod_terms {g : Bool} {d : Nat} {Q : List xM → Option Value → Prop} {i0 i6 i8 i9 i10 i13 i14 i18 i19 i20 i21 i22 i23 i24 i25 i27 i28 i33 i42 i43 i44 i45 i46 i47 i48 i51 i52 : Int} {x1 x2 x3 x4 x5 x7 x11 x12 x15 x16 x17 x26 x29 x30 x31 x32 x34 x35 x36 x37 x38 x39 x40 x41 x49 x50 : Int → Int} {what value : Int} (r1 : R32 what) (r2 : R32 value) (ht : (what = 0 ∧ 0 ≤ value ∧ value ≤ 999) ∨ (what = 1 ∧ 1 ≤ value ∧ value ≤ 9) ∨ (what = 2 ∧ 0 ≤ value ∧ value ≤ 9) → Q (MM 0 i6 i8 i9 i10 i13 i14 i18 i19 i20 i21 i22 i23 i24 i25 i27 i28 0 i42 i43 i44 i45 i46 i47 i48 i51 i52 x1 (up x2 (21 + what) value) x3 x4 x5 x7 x11 x12 x15 x16 x17 x26 x29 x30 x31 x32 x34 x35 x36 x37 x38 x39 x40 x41 x49 x50) (some (.int (ii (x2 (21 + what)))))) (hf : ¬ ((what = 0 ∧ 0 ≤ value ∧ value ≤ 999) ∨ (what = 1 ∧ 1 ≤ value ∧ value ≤ 9) ∨ (what = 2 ∧ 0 ≤ value ∧ value ≤ 9)) → Q (MM (-1) i6 i8 i9 i10 i13 i14 i18 i19 i20 i21 i22 i23 i24 i25 i27 i28 i33 i42 i43 i44 i45 i46 i47 i48 i51 i52 (up x1 (0 - (-1)) (x1 (0 - (-1)) + 1)) x2 x3 x4 x5 x7 x11 x12 x15 x16 x17 x26 x29 x30 x31 x32 x34 x35 x36 x37 x38 x39 x40 x41 x49 x50) (some (.int (ii (-1))))) : CT g m_Mod_terms (d + 2) [.ref 0, .int (ii what), .int (ii value)] (MM i0 i6 i8 i9 i10 i13 i14 i18 i19 i20 i21 i22 i23 i24 i25 i27 i28 i33 i42 i43 i44 i45 i46 i47 i48 i51 i52 x1 x2 x3 x4 x5 x7 x11 x12 x15 x16 x17 x26 x29 x30 x31 x32 x34 x35 x36 x37 x38 x39 x40 x41 x49 x50) 0 0 Q := by
  refine CT.of (by decide) (Nat.le_of_ble_eq_true rfl) ?_
  show SJ _ _ _ _ [some (.ref 0), some (.int (ii what)), some (.int (ii value)), none] [] _ _ _ _
  refine j_iload_n d_Mod_terms_0 rfl ?_
  refine j_iload_n d_Mod_terms_1 rfl ?_
  refine s_call2 d_Mod_terms_2 c_Mod_129 (Nat.le_of_ble_eq_true rfl) (t_Mod_isTerm (by first | omega | exact hw _ | exact hx _ _ | assumption) (by first | omega | exact hw _ | exact hx _ _ | assumption) (fun h2 => ?_) (fun h2 => ?_))
  · refine z_if_ne (t := 14) d_Mod_terms_5 (by decide) (by first | omega | exact hw _ | exact hx _ _ | assumption) (fun _ => ?_) (fun h => absurd h (by decide))
    refine j_aload_n d_Mod_terms_14 rfl ?_
    refine mg_kept f_Mod_32 d_Mod_terms_15 ?_
    refine j_iload_n d_Mod_terms_18 rfl ?_
    refine s_call1 d_Mod_terms_19 c_Mod_133 (Nat.le_of_ble_eq_true rfl) (t_Mod_termAt (by omega) (by omega) ?_)
    refine ml_kept d_Mod_terms_22 (by omega) (by omega) ?_
    refine j_istore_n d_Mod_terms_23 (by decide) ?_
    show SJ _ _ _ _ [_, _, _, _] _ _ _ _ _
    refine j_aload_n d_Mod_terms_24 rfl ?_
    refine mg_kept f_Mod_32 d_Mod_terms_25 ?_
    refine j_iload_n d_Mod_terms_28 rfl ?_
    refine s_call1 d_Mod_terms_29 c_Mod_133 (Nat.le_of_ble_eq_true rfl) (t_Mod_termAt (by omega) (by omega) ?_)
    refine j_iload_n d_Mod_terms_32 rfl ?_
    refine ms_kept d_Mod_terms_33 (by omega) (by omega) ?_
    refine j_aload_n d_Mod_terms_34 rfl ?_
    refine j_iload_n d_Mod_terms_35 rfl ?_
    refine v_call1 d_Mod_terms_36 c_Mod_122 rfl ⟨_, rfl, rfl⟩ (Nat.le_of_ble_eq_true rfl) (t_Mod_settled  ?_)
    exact z_iret rfl d_Mod_terms_39 (by first | rfl | omega | simp_all) (ht (by omega))
  · refine z_if_ne (t := 14) d_Mod_terms_5 (by decide) (by first | omega | exact hw _ | exact hx _ _ | assumption) (fun h => absurd h (by decide)) (fun _ => ?_)
    refine j_aload_n d_Mod_terms_8 rfl ?_
    refine z_iconst d_Mod_terms_9 ?_
    refine v_call1 d_Mod_terms_10 c_Mod_119 rfl ⟨_, rfl, rfl⟩ (Nat.le_of_ble_eq_true rfl) (t_Mod_refuses (by omega) (by omega) ?_)
    exact z_iret rfl d_Mod_terms_13 (by first | rfl | omega | simp_all) (hf (by omega))
theorem t_Mod_end {g : Bool} {d : Nat} {Q : List xM → Option Value → Prop} {i0 i6 i8 i9 i10 i13 i14 i18 i19 i20 i21 i22 i23 i24 i25 i27 i28 i33 i42 i43 i44 i45 i46 i47 i48 i51 i52 : Int} {x1 x2 x3 x4 x5 x7 x11 x12 x15 x16 x17 x26 x29 x30 x31 x32 x34 x35 x36 x37 x38 x39 x40 x41 x49 x50 : Int → Int} {n : Int} (r1 : R32 n) (r2 : R32 i13) (ht : 0 ≤ n ∧ n ≤ i13 → Q (MM i0 i6 i8 i9 i10 n i14 i18 i19 i20 i21 i22 i23 i24 i25 i27 i28 i33 i42 i43 i44 i45 i46 i47 i48 i51 i52 x1 x2 x3 x4 x5 x7 x11 x12 x15 x16 x17 x26 x29 x30 x31 x32 x34 x35 x36 x37 x38 x39 x40 x41 x49 x50) (some (.int (ii n)))) (hf : ¬ (0 ≤ n ∧ n ≤ i13) → Q (MM i0 i6 i8 i9 i10 i13 i14 i18 i19 i20 i21 i22 i23 i24 i25 i27 i28 i33 i42 i43 i44 i45 i46 i47 i48 i51 i52 x1 x2 x3 x4 x5 x7 x11 x12 x15 x16 x17 x26 x29 x30 x31 x32 x34 x35 x36 x37 x38 x39 x40 x41 x49 x50) (some (.int (ii (-1))))) : CT g m_Mod_end (d + 1) [.ref 0, .int (ii n)] (MM i0 i6 i8 i9 i10 i13 i14 i18 i19 i20 i21 i22 i23 i24 i25 i27 i28 i33 i42 i43 i44 i45 i46 i47 i48 i51 i52 x1 x2 x3 x4 x5 x7 x11 x12 x15 x16 x17 x26 x29 x30 x31 x32 x34 x35 x36 x37 x38 x39 x40 x41 x49 x50) 0 0 Q := by
  refine CT.of (by decide) (Nat.le_of_ble_eq_true rfl) ?_
  show SJ _ _ _ _ [some (.ref 0), some (.int (ii n))] [] _ _ _ _
  refine j_iload_n d_Mod_end_0 rfl ?_
  refine z_iconst d_Mod_end_1 ?_
  refine j_aload_n d_Mod_end_2 rfl ?_
  refine mg_taped f_Mod_136 d_Mod_end_3 ?_
  refine s_call3 d_Mod_end_6 c_Mod_18 (Nat.le_of_ble_eq_true rfl) (t_Mod_lies (by first | omega | exact hw _ | exact hx _ _ | assumption) (by first | omega | exact hw _ | exact hx _ _ | assumption) (by first | omega | exact hw _ | exact hx _ _ | assumption) (fun h6 => ?_) (fun h6 => ?_))
  · refine z_if_ne (t := 14) d_Mod_end_9 (by decide) (by first | omega | exact hw _ | exact hx _ _ | assumption) (fun _ => ?_) (fun h => absurd h (by decide))
    refine j_aload_n d_Mod_end_14 rfl ?_
    refine j_iload_n d_Mod_end_15 rfl ?_
    refine mp_taped f_Mod_136 d_Mod_end_16 ?_
    refine j_iload_n d_Mod_end_19 rfl ?_
    exact z_iret rfl d_Mod_end_20 (by first | rfl | omega | simp_all) (ht (by omega))
  · refine z_if_ne (t := 14) d_Mod_end_9 (by decide) (by first | omega | exact hw _ | exact hx _ _ | assumption) (fun h => absurd h (by decide)) (fun _ => ?_)
    refine z_iconst d_Mod_end_12 ?_
    exact z_iret rfl d_Mod_end_13 (by first | rfl | omega | simp_all) (hf (by omega))
theorem t_Mod_blots {g : Bool} {d : Nat} {Q : List xM → Option Value → Prop} {i0 i6 i8 i9 i10 i13 i14 i18 i19 i20 i21 i22 i23 i24 i25 i27 i28 i33 i42 i43 i44 i45 i46 i47 i48 i51 i52 : Int} {x1 x2 x3 x4 x5 x7 x11 x12 x15 x16 x17 x26 x29 x30 x31 x32 x34 x35 x36 x37 x38 x39 x40 x41 x49 x50 : Int → Int} (hQ : Q (MM i0 i6 i8 i9 i10 i13 i14 i18 i19 i20 i21 i22 i23 i24 i25 i27 i28 i33 i42 i43 i44 i45 i46 i47 i48 i51 i52 x1 x2 x3 x4 x5 x7 x11 x12 x15 x16 x17 x26 x29 x30 x31 x32 x34 x35 x36 x37 x38 x39 x40 x41 x49 x50) (some (.int (ii i6)))) : CT g m_Mod_blots d [.ref 0] (MM i0 i6 i8 i9 i10 i13 i14 i18 i19 i20 i21 i22 i23 i24 i25 i27 i28 i33 i42 i43 i44 i45 i46 i47 i48 i51 i52 x1 x2 x3 x4 x5 x7 x11 x12 x15 x16 x17 x26 x29 x30 x31 x32 x34 x35 x36 x37 x38 x39 x40 x41 x49 x50) 0 0 Q := by
  refine CT.of (by decide) (Nat.le_of_ble_eq_true rfl) ?_
  show SJ _ _ _ _ [some (.ref 0)] [] _ _ _ _
  refine j_aload_n d_Mod_blots_0 rfl ?_
  refine mg_blots0 f_Mod_139 d_Mod_blots_1 ?_
  exact z_iret rfl d_Mod_blots_4 (by first | rfl | omega | simp_all) hQ
theorem t_Mod_fault {g : Bool} {d : Nat} {Q : List xM → Option Value → Prop} {i0 i6 i8 i9 i10 i13 i14 i18 i19 i20 i21 i22 i23 i24 i25 i27 i28 i33 i42 i43 i44 i45 i46 i47 i48 i51 i52 : Int} {x1 x2 x3 x4 x5 x7 x11 x12 x15 x16 x17 x26 x29 x30 x31 x32 x34 x35 x36 x37 x38 x39 x40 x41 x49 x50 : Int → Int} (hQ : Q (MM i0 i6 i8 i9 i10 i13 i14 i18 i19 i20 i21 i22 i23 i24 i25 i27 i28 i33 i42 i43 i44 i45 i46 i47 i48 i51 i52 x1 x2 x3 x4 x5 x7 x11 x12 x15 x16 x17 x26 x29 x30 x31 x32 x34 x35 x36 x37 x38 x39 x40 x41 x49 x50) (some (.int (ii i14)))) : CT g m_Mod_fault d [.ref 0] (MM i0 i6 i8 i9 i10 i13 i14 i18 i19 i20 i21 i22 i23 i24 i25 i27 i28 i33 i42 i43 i44 i45 i46 i47 i48 i51 i52 x1 x2 x3 x4 x5 x7 x11 x12 x15 x16 x17 x26 x29 x30 x31 x32 x34 x35 x36 x37 x38 x39 x40 x41 x49 x50) 0 0 Q := by
  refine CT.of (by decide) (Nat.le_of_ble_eq_true rfl) ?_
  show SJ _ _ _ _ [some (.ref 0)] [] _ _ _ _
  refine j_aload_n d_Mod_fault_0 rfl ?_
  refine mg_fault f_Mod_55 d_Mod_fault_1 ?_
  exact z_iret rfl d_Mod_fault_4 (by first | rfl | omega | simp_all) hQ
theorem t_Mod_stopped {g : Bool} {d : Nat} {Q : List xM → Option Value → Prop} {i0 i6 i8 i9 i10 i13 i14 i18 i19 i20 i21 i22 i23 i24 i25 i27 i28 i33 i42 i43 i44 i45 i46 i47 i48 i51 i52 : Int} {x1 x2 x3 x4 x5 x7 x11 x12 x15 x16 x17 x26 x29 x30 x31 x32 x34 x35 x36 x37 x38 x39 x40 x41 x49 x50 : Int → Int} (hQ : Q (MM i0 i6 i8 i9 i10 i13 i14 i18 i19 i20 i21 i22 i23 i24 i25 i27 i28 i33 i42 i43 i44 i45 i46 i47 i48 i51 i52 x1 x2 x3 x4 x5 x7 x11 x12 x15 x16 x17 x26 x29 x30 x31 x32 x34 x35 x36 x37 x38 x39 x40 x41 x49 x50) (some (.int (ii i42)))) : CT g m_Mod_stopped d [.ref 0] (MM i0 i6 i8 i9 i10 i13 i14 i18 i19 i20 i21 i22 i23 i24 i25 i27 i28 i33 i42 i43 i44 i45 i46 i47 i48 i51 i52 x1 x2 x3 x4 x5 x7 x11 x12 x15 x16 x17 x26 x29 x30 x31 x32 x34 x35 x36 x37 x38 x39 x40 x41 x49 x50) 0 0 Q := by
  refine CT.of (by decide) (Nat.le_of_ble_eq_true rfl) ?_
  show SJ _ _ _ _ [some (.ref 0)] [] _ _ _ _
  refine j_aload_n d_Mod_stopped_0 rfl ?_
  refine mg_stopped0 f_Mod_107 d_Mod_stopped_1 ?_
  exact z_iret rfl d_Mod_stopped_4 (by first | rfl | omega | simp_all) hQ
theorem t_Mod_status {g : Bool} {d : Nat} {Q : List xM → Option Value → Prop} {i0 i6 i8 i9 i10 i13 i14 i18 i19 i20 i21 i22 i23 i24 i25 i27 i28 i33 i42 i43 i44 i45 i46 i47 i48 i51 i52 : Int} {x1 x2 x3 x4 x5 x7 x11 x12 x15 x16 x17 x26 x29 x30 x31 x32 x34 x35 x36 x37 x38 x39 x40 x41 x49 x50 : Int → Int} (hQ : Q (MM i0 i6 i8 i9 i10 i13 i14 i18 i19 i20 i21 i22 i23 i24 i25 i27 i28 i33 i42 i43 i44 i45 i46 i47 i48 i51 i52 x1 x2 x3 x4 x5 x7 x11 x12 x15 x16 x17 x26 x29 x30 x31 x32 x34 x35 x36 x37 x38 x39 x40 x41 x49 x50) (some (.int (ii i0)))) : CT g m_Mod_status d [.ref 0] (MM i0 i6 i8 i9 i10 i13 i14 i18 i19 i20 i21 i22 i23 i24 i25 i27 i28 i33 i42 i43 i44 i45 i46 i47 i48 i51 i52 x1 x2 x3 x4 x5 x7 x11 x12 x15 x16 x17 x26 x29 x30 x31 x32 x34 x35 x36 x37 x38 x39 x40 x41 x49 x50) 0 0 Q := by
  refine CT.of (by decide) (Nat.le_of_ble_eq_true rfl) ?_
  show SJ _ _ _ _ [some (.ref 0)] [] _ _ _ _
  refine j_aload_n d_Mod_status_0 rfl ?_
  refine mg_status f_Mod_3 d_Mod_status_1 ?_
  exact z_iret rfl d_Mod_status_4 (by first | rfl | omega | simp_all) hQ
theorem t_Mod_goodOr {g : Bool} {d : Nat} {Q : List xM → Option Value → Prop} {i0 i6 i8 i9 i10 i13 i14 i18 i19 i20 i21 i22 i23 i24 i25 i27 i28 i33 i42 i43 i44 i45 i46 i47 i48 i51 i52 : Int} {x1 x2 x3 x4 x5 x7 x11 x12 x15 x16 x17 x26 x29 x30 x31 x32 x34 x35 x36 x37 x38 x39 x40 x41 x49 x50 : Int → Int} {v : Int} (r1 : R32 v) (h1 : -6 ≤ v) (ht : 0 ≤ v → Q (MM 0 i6 i8 i9 i10 i13 i14 i18 i19 i20 i21 i22 i23 i24 i25 i27 i28 i33 i42 i43 i44 i45 i46 i47 i48 i51 i52 x1 x2 x3 x4 x5 x7 x11 x12 x15 x16 x17 x26 x29 x30 x31 x32 x34 x35 x36 x37 x38 x39 x40 x41 x49 x50) (some (.int (ii v)))) (hf : v < 0 → Q (MM v i6 i8 i9 i10 i13 i14 i18 i19 i20 i21 i22 i23 i24 i25 i27 i28 i33 i42 i43 i44 i45 i46 i47 i48 i51 i52 (up x1 (0 - v) (x1 (0 - v) + 1)) x2 x3 x4 x5 x7 x11 x12 x15 x16 x17 x26 x29 x30 x31 x32 x34 x35 x36 x37 x38 x39 x40 x41 x49 x50) (some (.int (ii v)))) : CT g m_Mod_goodOr (d + 1) [.ref 0, .int (ii v)] (MM i0 i6 i8 i9 i10 i13 i14 i18 i19 i20 i21 i22 i23 i24 i25 i27 i28 i33 i42 i43 i44 i45 i46 i47 i48 i51 i52 x1 x2 x3 x4 x5 x7 x11 x12 x15 x16 x17 x26 x29 x30 x31 x32 x34 x35 x36 x37 x38 x39 x40 x41 x49 x50) 0 0 Q := by
  refine CT.of (by decide) (Nat.le_of_ble_eq_true rfl) ?_
  show SJ _ _ _ _ [some (.ref 0), some (.int (ii v))] [] _ _ _ _
  refine j_iload_n d_Mod_goodOr_0 rfl ?_
  refine z_if_ge (t := 12) d_Mod_goodOr_1 (by decide) (by first | omega | exact hw _ | exact hx _ _ | assumption) (fun h1 => ?_) (fun h1 => ?_)
  · refine j_aload_n d_Mod_goodOr_12 rfl ?_
    refine j_iload_n d_Mod_goodOr_13 rfl ?_
    refine v_call1 d_Mod_goodOr_14 c_Mod_14 rfl ⟨_, rfl, rfl⟩ (Nat.le_of_ble_eq_true rfl) (t_Mod_good  ?_)
    first | exact z_iret rfl d_Mod_goodOr_17 rfl (ht (by omega)) | exact z_iret rfl d_Mod_goodOr_17 rfl (hf (by omega))
  · refine j_aload_n d_Mod_goodOr_4 rfl ?_
    refine j_iload_n d_Mod_goodOr_5 rfl ?_
    refine v_call1 d_Mod_goodOr_6 c_Mod_119 rfl ⟨_, rfl, rfl⟩ (Nat.le_of_ble_eq_true rfl) (t_Mod_refuses (by omega) (by omega) ?_)
    refine j_goto (t := 17) d_Mod_goodOr_9 (by decide) ?_
    first | exact z_iret rfl d_Mod_goodOr_17 rfl (ht (by omega)) | exact z_iret rfl d_Mod_goodOr_17 rfl (hf (by omega))
