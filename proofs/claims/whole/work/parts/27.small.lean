def MR (g : Bool) (y : xY) (dd : Nat) (deep : Int) (i0 i6 i8 i9 i10 i13 i14 i18 i22 i23 i24 i25 i27 i28 i33 i42 i43 i44 i45 i46 i47 i48 i51 i52 : Int) (x1 x2 x3 x4 x5 x7 x11 x12 x15 x16 x17 x26 x29 x30 x31 x32 x34 x35 x36 x37 x38 x39 x40 x41 x49 x50 : Int → Int) {α : Type} (F : Int → Int → PR α) : Prop := ∀ (tk lv : Int) (Q : List xM → Option Value → Prop), 1 ≤ tk → tk ≤ i18 → 0 ≤ lv → lv ≤ 50 → (∀ a t l, F tk lv = .inl (a, t, l) → Q (MM i0 i6 i8 i9 i10 i13 i14 i18 t l (-1) i22 i23 i24 i25 i27 i28 i33 i42 i43 i44 i45 i46 i47 i48 i51 i52 x1 x2 x3 x4 x5 x7 x11 x12 x15 x16 x17 x26 x29 x30 x31 x32 x34 x35 x36 x37 x38 x39 x40 x41 x49 x50) none) → (∀ t, F tk lv = .inr t → ∀ l, Q (MM i0 i6 i8 i9 i10 i13 i14 i18 t l (x17 t) i22 i23 i24 i25 i27 i28 i33 i42 i43 i44 i45 i46 i47 i48 i51 i52 x1 x2 x3 x4 x5 x7 x11 x12 x15 x16 x17 x26 x29 x30 x31 x32 x34 x35 x36 x37 x38 x39 x40 x41 x49 x50) none) → CT g y dd [.ref 0, .int (ii deep)] (MM i0 i6 i8 i9 i10 i13 i14 i18 tk lv (-1) i22 i23 i24 i25 i27 i28 i33 i42 i43 i44 i45 i46 i47 i48 i51 i52 x1 x2 x3 x4 x5 x7 x11 x12 x15 x16 x17 x26 x29 x30 x31 x32 x34 x35 x36 x37 x38 x39 x40 x41 x49 x50) 0 0 Q
theorem g_Mod_fine {g : Bool} {d : Nat} {Q : List xM → Option Value → Prop} {i0 i6 i8 i9 i10 i13 i14 i18 i22 i23 i24 i25 i27 i28 i33 i42 i43 i44 i45 i46 i47 i48 i51 i52 : Int} {x1 x2 x3 x4 x5 x7 x11 x12 x15 x16 x17 x26 x29 x30 x31 x32 x34 x35 x36 x37 x38 x39 x40 x41 x49 x50 : Int → Int} {tk lv : Int} (hQ : Q (MM i0 i6 i8 i9 i10 i13 i14 i18 tk lv (-1) i22 i23 i24 i25 i27 i28 i33 i42 i43 i44 i45 i46 i47 i48 i51 i52 x1 x2 x3 x4 x5 x7 x11 x12 x15 x16 x17 x26 x29 x30 x31 x32 x34 x35 x36 x37 x38 x39 x40 x41 x49 x50) (some (.int (ii 1)))) : CT g m_Mod_fine d [.ref 0] (MM i0 i6 i8 i9 i10 i13 i14 i18 tk lv (-1) i22 i23 i24 i25 i27 i28 i33 i42 i43 i44 i45 i46 i47 i48 i51 i52 x1 x2 x3 x4 x5 x7 x11 x12 x15 x16 x17 x26 x29 x30 x31 x32 x34 x35 x36 x37 x38 x39 x40 x41 x49 x50) 0 0 Q := by
  refine CT.of (by decide) (Nat.le_of_ble_eq_true rfl) ?_
  show SJ _ _ _ _ [some (.ref 0)] [] _ _ _ _
  refine j_aload_n d_Mod_fine_0 rfl ?_
  refine mg_bad f_Mod_159 d_Mod_fine_1 ?_
  refine z_iconst d_Mod_fine_4 ?_
  refine z_icmp_ne (t := 12) d_Mod_fine_5 (by decide) (by first | omega | exact hw _ | exact hx _ _ | assumption) (by first | omega | exact hw _ | exact hx _ _ | assumption) (fun h => absurd h (by decide)) (fun _ => ?_)
  refine z_iconst d_Mod_fine_8 ?_
  refine j_goto (t := 13) d_Mod_fine_9 (by decide) ?_
  exact z_zreturn rfl (Or.inr rfl) d_Mod_fine_13 hQ
theorem b_Mod_fine {g : Bool} {d : Nat} {Q : List xM → Option Value → Prop} {i0 i6 i8 i9 i10 i13 i14 i18 i22 i23 i24 i25 i27 i28 i33 i42 i43 i44 i45 i46 i47 i48 i51 i52 : Int} {x1 x2 x3 x4 x5 x7 x11 x12 x15 x16 x17 x26 x29 x30 x31 x32 x34 x35 x36 x37 x38 x39 x40 x41 x49 x50 : Int → Int} {tk lv bq_ : Int} (hbz : 0 ≤ bq_) (hbz2 : bq_ ≤ 400) (hQ : Q (MM i0 i6 i8 i9 i10 i13 i14 i18 tk lv bq_ i22 i23 i24 i25 i27 i28 i33 i42 i43 i44 i45 i46 i47 i48 i51 i52 x1 x2 x3 x4 x5 x7 x11 x12 x15 x16 x17 x26 x29 x30 x31 x32 x34 x35 x36 x37 x38 x39 x40 x41 x49 x50) (some (.int (ii 0)))) : CT g m_Mod_fine d [.ref 0] (MM i0 i6 i8 i9 i10 i13 i14 i18 tk lv bq_ i22 i23 i24 i25 i27 i28 i33 i42 i43 i44 i45 i46 i47 i48 i51 i52 x1 x2 x3 x4 x5 x7 x11 x12 x15 x16 x17 x26 x29 x30 x31 x32 x34 x35 x36 x37 x38 x39 x40 x41 x49 x50) 0 0 Q := by
  refine CT.of (by decide) (Nat.le_of_ble_eq_true rfl) ?_
  show SJ _ _ _ _ [some (.ref 0)] [] _ _ _ _
  refine j_aload_n d_Mod_fine_0 rfl ?_
  refine mg_bad f_Mod_159 d_Mod_fine_1 ?_
  refine z_iconst d_Mod_fine_4 ?_
  refine z_icmp_ne (t := 12) d_Mod_fine_5 (by decide) (by first | omega | exact hw _ | exact hx _ _ | assumption) (by first | omega | exact hw _ | exact hx _ _ | assumption) (fun h5 => ?_) (fun h5 => ?_)
  · refine z_iconst d_Mod_fine_12 ?_
    first | (exfalso; omega) | exact z_zreturn rfl (Or.inl rfl) d_Mod_fine_13 hQ
  · refine z_iconst d_Mod_fine_8 ?_
    refine j_goto (t := 13) d_Mod_fine_9 (by decide) ?_
    first | (exfalso; omega) | exact z_zreturn rfl (Or.inl rfl) d_Mod_fine_13 hQ
theorem t_Mod_faults {g : Bool} {d : Nat} {Q : List xM → Option Value → Prop} {i0 i6 i8 i9 i10 i13 i14 i18 i22 i23 i24 i25 i27 i28 i33 i42 i43 i44 i45 i46 i47 i48 i51 i52 : Int} {x1 x2 x3 x4 x5 x7 x11 x12 x15 x16 x17 x26 x29 x30 x31 x32 x34 x35 x36 x37 x38 x39 x40 x41 x49 x50 : Int → Int} (hN0 : 0 ≤ i18) (hN1 : i18 ≤ 400) (hNe : x15 i18 = 0) (hcd : ∀ j, 0 ≤ j → j ≤ i18 → (0 ≤ x15 j ∧ x15 j ≤ 400) ∧ (0 ≤ x16 j ∧ x16 j ≤ 100000000) ∧ (0 ≤ x17 j ∧ x17 j ≤ 400)) {tk lv : Int} (k0 : 0 ≤ tk) (k1 : tk ≤ i18) (hQ : Q (MM i0 i6 i8 i9 i10 i13 i14 i18 tk lv (x17 tk) i22 i23 i24 i25 i27 i28 i33 i42 i43 i44 i45 i46 i47 i48 i51 i52 x1 x2 x3 x4 x5 x7 x11 x12 x15 x16 x17 x26 x29 x30 x31 x32 x34 x35 x36 x37 x38 x39 x40 x41 x49 x50) none) : CT g m_Mod_faults (d + 1) [.ref 0] (MM i0 i6 i8 i9 i10 i13 i14 i18 tk lv (-1) i22 i23 i24 i25 i27 i28 i33 i42 i43 i44 i45 i46 i47 i48 i51 i52 x1 x2 x3 x4 x5 x7 x11 x12 x15 x16 x17 x26 x29 x30 x31 x32 x34 x35 x36 x37 x38 x39 x40 x41 x49 x50) 0 0 Q := by
  refine CT.of (by decide) (Nat.le_of_ble_eq_true rfl) ?_
  show SJ _ _ _ _ [some (.ref 0)] [] _ _ _ _
  refine j_aload_n d_Mod_faults_0 rfl ?_
  refine v_call0 d_Mod_faults_1 c_Mod_162 rfl ⟨_, rfl, rfl⟩ (Nat.le_of_ble_eq_true rfl) (g_Mod_fine ?_)
  refine z_if_eq (t := 20) d_Mod_faults_4 (by decide) (by first | omega | exact hw _ | exact hx _ _ | assumption) (fun h => absurd h (by decide)) (fun _ => ?_)
  refine j_aload_n d_Mod_faults_7 rfl ?_
  refine j_aload_n d_Mod_faults_8 rfl ?_
  refine mg_placed f_Mod_64 d_Mod_faults_9 ?_
  refine j_aload_n d_Mod_faults_12 rfl ?_
  refine mg_token f_Mod_166 d_Mod_faults_13 ?_
  refine ml_placed d_Mod_faults_16 (by omega) (by omega) ?_
  refine mp_bad f_Mod_159 d_Mod_faults_17 ?_
  exact j_return rfl d_Mod_faults_20 hQ
theorem b_Mod_takes0 {g : Bool} {d : Nat} {Q : List xM → Option Value → Prop} {i0 i6 i8 i9 i10 i13 i14 i18 i22 i23 i24 i25 i27 i28 i33 i42 i43 i44 i45 i46 i47 i48 i51 i52 : Int} {x1 x2 x3 x4 x5 x7 x11 x12 x15 x16 x17 x26 x29 x30 x31 x32 x34 x35 x36 x37 x38 x39 x40 x41 x49 x50 : Int → Int} {tk lv bq_ : Int} (hbz : 0 ≤ bq_) (hbz2 : bq_ ≤ 400) {c : Int} (hQ : Q (MM i0 i6 i8 i9 i10 i13 i14 i18 tk lv bq_ i22 i23 i24 i25 i27 i28 i33 i42 i43 i44 i45 i46 i47 i48 i51 i52 x1 x2 x3 x4 x5 x7 x11 x12 x15 x16 x17 x26 x29 x30 x31 x32 x34 x35 x36 x37 x38 x39 x40 x41 x49 x50) (some (.int (ii 0)))) : CT g m_Mod_takes0 (d + 1) [.ref 0, .int (ii c)] (MM i0 i6 i8 i9 i10 i13 i14 i18 tk lv bq_ i22 i23 i24 i25 i27 i28 i33 i42 i43 i44 i45 i46 i47 i48 i51 i52 x1 x2 x3 x4 x5 x7 x11 x12 x15 x16 x17 x26 x29 x30 x31 x32 x34 x35 x36 x37 x38 x39 x40 x41 x49 x50) 0 0 Q := by
  refine CT.of (by decide) (Nat.le_of_ble_eq_true rfl) ?_
  show SJ _ _ _ _ [some (.ref 0), some (.int (ii c)), none] [] _ _ _ _
  refine j_aload_n d_Mod_takes0_0 rfl ?_
  refine v_call0 d_Mod_takes0_1 c_Mod_162 rfl ⟨_, rfl, rfl⟩ (Nat.le_of_ble_eq_true rfl) (b_Mod_fine hbz hbz2 ?_)
  refine z_if_eq (t := 24) d_Mod_takes0_4 (by decide) (by first | omega | exact hw _ | exact hx _ _ | assumption) (fun _ => ?_) (fun h => absurd h (by decide))
  refine z_iconst d_Mod_takes0_24 ?_
  refine j_istore_n d_Mod_takes0_25 (by decide) ?_
  show SJ _ _ _ _ [_, _, _] _ _ _ _ _
  refine j_iload_n d_Mod_takes0_26 rfl ?_
  refine z_if_eq (t := 40) d_Mod_takes0_27 (by decide) (by first | omega | exact hw _ | exact hx _ _ | assumption) (fun _ => ?_) (fun h => absurd h (by decide))
  refine j_iload_n d_Mod_takes0_40 rfl ?_
  exact z_zreturn rfl (Or.inl rfl) d_Mod_takes0_41 hQ
theorem t_Mod_takes0 {g : Bool} {d : Nat} {Q : List xM → Option Value → Prop} {i0 i6 i8 i9 i10 i13 i14 i18 i22 i23 i24 i25 i27 i28 i33 i42 i43 i44 i45 i46 i47 i48 i51 i52 : Int} {x1 x2 x3 x4 x5 x7 x11 x12 x15 x16 x17 x26 x29 x30 x31 x32 x34 x35 x36 x37 x38 x39 x40 x41 x49 x50 : Int → Int} (hN0 : 0 ≤ i18) (hN1 : i18 ≤ 400) (hNe : x15 i18 = 0) (hcd : ∀ j, 0 ≤ j → j ≤ i18 → (0 ≤ x15 j ∧ x15 j ≤ 400) ∧ (0 ≤ x16 j ∧ x16 j ≤ 100000000) ∧ (0 ≤ x17 j ∧ x17 j ≤ 400)) {tk lv : Int} (k0 : 0 ≤ tk) (k1 : tk ≤ i18) {c : Int} (rc : R32 c) (ht : x15 tk = c → Q (MM i0 i6 i8 i9 i10 i13 i14 i18 (tk + 1) lv (-1) i22 i23 i24 i25 i27 i28 i33 i42 i43 i44 i45 i46 i47 i48 i51 i52 x1 x2 x3 x4 x5 x7 x11 x12 x15 x16 x17 x26 x29 x30 x31 x32 x34 x35 x36 x37 x38 x39 x40 x41 x49 x50) (some (.int (ii 1)))) (hf : ¬ x15 tk = c → Q (MM i0 i6 i8 i9 i10 i13 i14 i18 tk lv (-1) i22 i23 i24 i25 i27 i28 i33 i42 i43 i44 i45 i46 i47 i48 i51 i52 x1 x2 x3 x4 x5 x7 x11 x12 x15 x16 x17 x26 x29 x30 x31 x32 x34 x35 x36 x37 x38 x39 x40 x41 x49 x50) (some (.int (ii 0)))) : CT g m_Mod_takes0 (d + 1) [.ref 0, .int (ii c)] (MM i0 i6 i8 i9 i10 i13 i14 i18 tk lv (-1) i22 i23 i24 i25 i27 i28 i33 i42 i43 i44 i45 i46 i47 i48 i51 i52 x1 x2 x3 x4 x5 x7 x11 x12 x15 x16 x17 x26 x29 x30 x31 x32 x34 x35 x36 x37 x38 x39 x40 x41 x49 x50) 0 0 Q := by
  refine CT.of (by decide) (Nat.le_of_ble_eq_true rfl) ?_
  show SJ _ _ _ _ [some (.ref 0), some (.int (ii c)), none] [] _ _ _ _
  have hck := hcd tk (by omega) (by omega)
  refine j_aload_n d_Mod_takes0_0 rfl ?_
  refine v_call0 d_Mod_takes0_1 c_Mod_162 rfl ⟨_, rfl, rfl⟩ (Nat.le_of_ble_eq_true rfl) (g_Mod_fine ?_)
  refine z_if_eq (t := 24) d_Mod_takes0_4 (by decide) (by first | omega | exact hw _ | exact hx _ _ | assumption) (fun h => absurd h (by decide)) (fun _ => ?_)
  refine j_aload_n d_Mod_takes0_7 rfl ?_
  refine mg_code f_Mod_58 d_Mod_takes0_8 ?_
  refine j_aload_n d_Mod_takes0_11 rfl ?_
  refine mg_token f_Mod_166 d_Mod_takes0_12 ?_
  refine ml_code d_Mod_takes0_15 (by omega) (by omega) ?_
  refine j_iload_n d_Mod_takes0_16 rfl ?_
  refine z_icmp_ne (t := 24) d_Mod_takes0_17 (by decide) (by first | omega | exact hw _ | exact hx _ _ | assumption) (by first | omega | exact hw _ | exact hx _ _ | assumption) (fun h17 => ?_) (fun h17 => ?_)
  · refine z_iconst d_Mod_takes0_24 ?_
    refine j_istore_n d_Mod_takes0_25 (by decide) ?_
    show SJ _ _ _ _ [_, _, _] _ _ _ _ _
    refine j_iload_n d_Mod_takes0_26 rfl ?_
    refine z_if_eq (t := 40) d_Mod_takes0_27 (by decide) (by first | omega | exact hw _ | exact hx _ _ | assumption) (fun _ => ?_) (fun h => absurd h (by decide))
    refine j_iload_n d_Mod_takes0_40 rfl ?_
    exact z_zreturn rfl (Or.inl rfl) d_Mod_takes0_41 (hf (by first | omega | simp_all))
  · refine z_iconst d_Mod_takes0_20 ?_
    refine j_goto (t := 25) d_Mod_takes0_21 (by decide) ?_
    refine j_istore_n d_Mod_takes0_25 (by decide) ?_
    show SJ _ _ _ _ [_, _, _] _ _ _ _ _
    refine j_iload_n d_Mod_takes0_26 rfl ?_
    refine z_if_eq (t := 40) d_Mod_takes0_27 (by decide) (by first | omega | exact hw _ | exact hx _ _ | assumption) (fun h => absurd h (by decide)) (fun _ => ?_)
    refine j_aload_n d_Mod_takes0_30 rfl ?_
    refine j_dup d_Mod_takes0_31 rfl ?_
    refine mg_token f_Mod_166 d_Mod_takes0_32 ?_
    refine z_iconst d_Mod_takes0_35 ?_
    refine z_iadd d_Mod_takes0_36 ?_
    refine mp_token f_Mod_166 d_Mod_takes0_37 ?_
    refine j_iload_n d_Mod_takes0_40 rfl ?_
    exact z_zreturn rfl (Or.inr rfl) d_Mod_takes0_41 (ht (by first | omega | simp_all))
theorem b_Mod_faults {g : Bool} {d : Nat} {Q : List xM → Option Value → Prop} {i0 i6 i8 i9 i10 i13 i14 i18 i22 i23 i24 i25 i27 i28 i33 i42 i43 i44 i45 i46 i47 i48 i51 i52 : Int} {x1 x2 x3 x4 x5 x7 x11 x12 x15 x16 x17 x26 x29 x30 x31 x32 x34 x35 x36 x37 x38 x39 x40 x41 x49 x50 : Int → Int} {tk lv bq_ : Int} (hbz : 0 ≤ bq_) (hbz2 : bq_ ≤ 400) (hQ : Q (MM i0 i6 i8 i9 i10 i13 i14 i18 tk lv bq_ i22 i23 i24 i25 i27 i28 i33 i42 i43 i44 i45 i46 i47 i48 i51 i52 x1 x2 x3 x4 x5 x7 x11 x12 x15 x16 x17 x26 x29 x30 x31 x32 x34 x35 x36 x37 x38 x39 x40 x41 x49 x50) none) : CT g m_Mod_faults (d + 1) [.ref 0] (MM i0 i6 i8 i9 i10 i13 i14 i18 tk lv bq_ i22 i23 i24 i25 i27 i28 i33 i42 i43 i44 i45 i46 i47 i48 i51 i52 x1 x2 x3 x4 x5 x7 x11 x12 x15 x16 x17 x26 x29 x30 x31 x32 x34 x35 x36 x37 x38 x39 x40 x41 x49 x50) 0 0 Q := by
  refine CT.of (by decide) (Nat.le_of_ble_eq_true rfl) ?_
  show SJ _ _ _ _ [some (.ref 0)] [] _ _ _ _
  refine j_aload_n d_Mod_faults_0 rfl ?_
  refine v_call0 d_Mod_faults_1 c_Mod_162 rfl ⟨_, rfl, rfl⟩ (Nat.le_of_ble_eq_true rfl) (b_Mod_fine hbz hbz2 ?_)
  refine z_if_eq (t := 20) d_Mod_faults_4 (by decide) (by first | omega | exact hw _ | exact hx _ _ | assumption) (fun _ => ?_) (fun h => absurd h (by decide))
  exact j_return rfl d_Mod_faults_20 hQ
theorem b_Mod_must {g : Bool} {d : Nat} {Q : List xM → Option Value → Prop} {i0 i6 i8 i9 i10 i13 i14 i18 i22 i23 i24 i25 i27 i28 i33 i42 i43 i44 i45 i46 i47 i48 i51 i52 : Int} {x1 x2 x3 x4 x5 x7 x11 x12 x15 x16 x17 x26 x29 x30 x31 x32 x34 x35 x36 x37 x38 x39 x40 x41 x49 x50 : Int → Int} {tk lv bq_ : Int} (hbz : 0 ≤ bq_) (hbz2 : bq_ ≤ 400) {c : Int} (hQ : Q (MM i0 i6 i8 i9 i10 i13 i14 i18 tk lv bq_ i22 i23 i24 i25 i27 i28 i33 i42 i43 i44 i45 i46 i47 i48 i51 i52 x1 x2 x3 x4 x5 x7 x11 x12 x15 x16 x17 x26 x29 x30 x31 x32 x34 x35 x36 x37 x38 x39 x40 x41 x49 x50) none) : CT g m_Mod_must (d + 2) [.ref 0, .int (ii c)] (MM i0 i6 i8 i9 i10 i13 i14 i18 tk lv bq_ i22 i23 i24 i25 i27 i28 i33 i42 i43 i44 i45 i46 i47 i48 i51 i52 x1 x2 x3 x4 x5 x7 x11 x12 x15 x16 x17 x26 x29 x30 x31 x32 x34 x35 x36 x37 x38 x39 x40 x41 x49 x50) 0 0 Q := by
  refine CT.of (by decide) (Nat.le_of_ble_eq_true rfl) ?_
  show SJ _ _ _ _ [some (.ref 0), some (.int (ii c))] [] _ _ _ _
  refine j_aload_n d_Mod_must_0 rfl ?_
  refine j_iload_n d_Mod_must_1 rfl ?_
  refine v_call1 d_Mod_must_2 c_Mod_169 rfl ⟨_, rfl, rfl⟩ (Nat.le_of_ble_eq_true rfl) (b_Mod_takes0 hbz hbz2 ?_)
  refine z_if_ne (t := 12) d_Mod_must_5 (by decide) (by first | omega | exact hw _ | exact hx _ _ | assumption) (fun h => absurd h (by decide)) (fun _ => ?_)
  refine j_aload_n d_Mod_must_8 rfl ?_
  refine v_call0 d_Mod_must_9 c_Mod_172 rfl ⟨_, rfl, rfl⟩ (Nat.le_of_ble_eq_true rfl) (b_Mod_faults hbz hbz2 ?_)
  exact j_return rfl d_Mod_must_12 hQ
theorem t_Mod_must {g : Bool} {d : Nat} {Q : List xM → Option Value → Prop} {i0 i6 i8 i9 i10 i13 i14 i18 i22 i23 i24 i25 i27 i28 i33 i42 i43 i44 i45 i46 i47 i48 i51 i52 : Int} {x1 x2 x3 x4 x5 x7 x11 x12 x15 x16 x17 x26 x29 x30 x31 x32 x34 x35 x36 x37 x38 x39 x40 x41 x49 x50 : Int → Int} (hN0 : 0 ≤ i18) (hN1 : i18 ≤ 400) (hNe : x15 i18 = 0) (hcd : ∀ j, 0 ≤ j → j ≤ i18 → (0 ≤ x15 j ∧ x15 j ≤ 400) ∧ (0 ≤ x16 j ∧ x16 j ≤ 100000000) ∧ (0 ≤ x17 j ∧ x17 j ≤ 400)) {tk lv : Int} (k0 : 0 ≤ tk) (k1 : tk ≤ i18) {c : Int} (rc : R32 c) (ht : x15 tk = c → Q (MM i0 i6 i8 i9 i10 i13 i14 i18 (tk + 1) lv (-1) i22 i23 i24 i25 i27 i28 i33 i42 i43 i44 i45 i46 i47 i48 i51 i52 x1 x2 x3 x4 x5 x7 x11 x12 x15 x16 x17 x26 x29 x30 x31 x32 x34 x35 x36 x37 x38 x39 x40 x41 x49 x50) none) (hf : ¬ x15 tk = c → Q (MM i0 i6 i8 i9 i10 i13 i14 i18 tk lv (x17 tk) i22 i23 i24 i25 i27 i28 i33 i42 i43 i44 i45 i46 i47 i48 i51 i52 x1 x2 x3 x4 x5 x7 x11 x12 x15 x16 x17 x26 x29 x30 x31 x32 x34 x35 x36 x37 x38 x39 x40 x41 x49 x50) none) : CT g m_Mod_must (d + 2) [.ref 0, .int (ii c)] (MM i0 i6 i8 i9 i10 i13 i14 i18 tk lv (-1) i22 i23 i24 i25 i27 i28 i33 i42 i43 i44 i45 i46 i47 i48 i51 i52 x1 x2 x3 x4 x5 x7 x11 x12 x15 x16 x17 x26 x29 x30 x31 x32 x34 x35 x36 x37 x38 x39 x40 x41 x49 x50) 0 0 Q := by
  refine CT.of (by decide) (Nat.le_of_ble_eq_true rfl) ?_
  show SJ _ _ _ _ [some (.ref 0), some (.int (ii c))] [] _ _ _ _
  refine j_aload_n d_Mod_must_0 rfl ?_
  refine j_iload_n d_Mod_must_1 rfl ?_
  refine v_call1 d_Mod_must_2 c_Mod_169 rfl ⟨_, rfl, rfl⟩ (Nat.le_of_ble_eq_true rfl) (t_Mod_takes0 hN0 hN1 hNe hcd k0 k1 rc (fun h2 => ?_) (fun h2 => ?_))
  · refine z_if_ne (t := 12) d_Mod_must_5 (by decide) (by first | omega | exact hw _ | exact hx _ _ | assumption) (fun _ => ?_) (fun h => absurd h (by decide))
    first | exact j_return rfl d_Mod_must_12 (ht h2) | exact j_return rfl d_Mod_must_12 (hf h2)
  · refine z_if_ne (t := 12) d_Mod_must_5 (by decide) (by first | omega | exact hw _ | exact hx _ _ | assumption) (fun h => absurd h (by decide)) (fun _ => ?_)
    refine j_aload_n d_Mod_must_8 rfl ?_
    refine v_call0 d_Mod_must_9 c_Mod_172 rfl ⟨_, rfl, rfl⟩ (Nat.le_of_ble_eq_true rfl) (t_Mod_faults hN0 hN1 hNe hcd k0 k1 ?_)
    first | exact j_return rfl d_Mod_must_12 (ht h2) | exact j_return rfl d_Mod_must_12 (hf h2)
theorem t_Mod_leaf {g : Bool} {d : Nat} {Q : List xM → Option Value → Prop} {i0 i6 i8 i9 i10 i13 i14 i18 i22 i23 i24 i25 i27 i28 i33 i42 i43 i44 i45 i46 i47 i48 i51 i52 : Int} {x1 x2 x3 x4 x5 x7 x11 x12 x15 x16 x17 x26 x29 x30 x31 x32 x34 x35 x36 x37 x38 x39 x40 x41 x49 x50 : Int → Int} (hN0 : 0 ≤ i18) (hN1 : i18 ≤ 400) (hNe : x15 i18 = 0) (hcd : ∀ j, 0 ≤ j → j ≤ i18 → (0 ≤ x15 j ∧ x15 j ≤ 400) ∧ (0 ≤ x16 j ∧ x16 j ≤ 100000000) ∧ (0 ≤ x17 j ∧ x17 j ≤ 400)) {tk lv : Int} (k0 : 0 ≤ tk) (k1 : tk ≤ i18) (v0 : 0 ≤ lv) (v1 : lv ≤ 50) (ht : ¬ lv = 50 → Q (MM i0 i6 i8 i9 i10 i13 i14 i18 (tk + 1) (lv + 1) (-1) i22 i23 i24 i25 i27 i28 i33 i42 i43 i44 i45 i46 i47 i48 i51 i52 x1 x2 x3 x4 x5 x7 x11 x12 x15 x16 x17 x26 x29 x30 x31 x32 x34 x35 x36 x37 x38 x39 x40 x41 x49 x50) none) (hf : lv = 50 → Q (MM i0 i6 i8 i9 i10 i13 i14 i18 tk (lv + 1) (x17 tk) i22 i23 i24 i25 i27 i28 i33 i42 i43 i44 i45 i46 i47 i48 i51 i52 x1 x2 x3 x4 x5 x7 x11 x12 x15 x16 x17 x26 x29 x30 x31 x32 x34 x35 x36 x37 x38 x39 x40 x41 x49 x50) none) : CT g m_Mod_leaf (d + 2) [.ref 0] (MM i0 i6 i8 i9 i10 i13 i14 i18 tk lv (-1) i22 i23 i24 i25 i27 i28 i33 i42 i43 i44 i45 i46 i47 i48 i51 i52 x1 x2 x3 x4 x5 x7 x11 x12 x15 x16 x17 x26 x29 x30 x31 x32 x34 x35 x36 x37 x38 x39 x40 x41 x49 x50) 0 0 Q := by
  refine CT.of (by decide) (Nat.le_of_ble_eq_true rfl) ?_
  show SJ _ _ _ _ [some (.ref 0)] [] _ _ _ _
  have hck := hcd tk (by omega) (by omega)
  obtain ⟨hbz, hbz2⟩ := hck.2.2
  refine j_aload_n d_Mod_leaf_0 rfl ?_
  refine mg_leaves f_Mod_175 d_Mod_leaf_1 ?_
  refine z_bipush d_Mod_leaf_4 (by decide) ?_
  refine z_icmp_ne (t := 13) d_Mod_leaf_6 (by decide) (by first | omega | exact hw _ | exact hx _ _ | assumption) (by first | omega | exact hw _ | exact hx _ _ | assumption) (fun h6 => ?_) (fun h6 => ?_)
  · refine j_aload_n d_Mod_leaf_13 rfl ?_
    refine j_dup d_Mod_leaf_14 rfl ?_
    refine mg_leaves f_Mod_175 d_Mod_leaf_15 ?_
    refine z_iconst d_Mod_leaf_18 ?_
    refine z_iadd d_Mod_leaf_19 ?_
    refine mp_leaves f_Mod_175 d_Mod_leaf_20 ?_
    refine j_aload_n d_Mod_leaf_23 rfl ?_
    refine v_call0 d_Mod_leaf_24 c_Mod_162 rfl ⟨_, rfl, rfl⟩ (Nat.le_of_ble_eq_true rfl) (g_Mod_fine ?_)
    refine z_if_eq (t := 40) d_Mod_leaf_27 (by decide) (by first | omega | exact hw _ | exact hx _ _ | assumption) (fun h => absurd h (by decide)) (fun _ => ?_)
    refine j_aload_n d_Mod_leaf_30 rfl ?_
    refine j_dup d_Mod_leaf_31 rfl ?_
    refine mg_token f_Mod_166 d_Mod_leaf_32 ?_
    refine z_iconst d_Mod_leaf_35 ?_
    refine z_iadd d_Mod_leaf_36 ?_
    refine mp_token f_Mod_166 d_Mod_leaf_37 ?_
    first | exact j_return rfl d_Mod_leaf_40 (ht (by omega)) | exact j_return rfl d_Mod_leaf_40 (hf (by omega))
  · refine j_aload_n d_Mod_leaf_9 rfl ?_
    refine v_call0 d_Mod_leaf_10 c_Mod_172 rfl ⟨_, rfl, rfl⟩ (Nat.le_of_ble_eq_true rfl) (t_Mod_faults hN0 hN1 hNe hcd k0 k1 ?_)
    refine j_aload_n d_Mod_leaf_13 rfl ?_
    refine j_dup d_Mod_leaf_14 rfl ?_
    refine mg_leaves f_Mod_175 d_Mod_leaf_15 ?_
    refine z_iconst d_Mod_leaf_18 ?_
    refine z_iadd d_Mod_leaf_19 ?_
    refine mp_leaves f_Mod_175 d_Mod_leaf_20 ?_
    refine j_aload_n d_Mod_leaf_23 rfl ?_
    refine v_call0 d_Mod_leaf_24 c_Mod_162 rfl ⟨_, rfl, rfl⟩ (Nat.le_of_ble_eq_true rfl) (b_Mod_fine hbz hbz2 ?_)
    refine z_if_eq (t := 40) d_Mod_leaf_27 (by decide) (by first | omega | exact hw _ | exact hx _ _ | assumption) (fun _ => ?_) (fun h => absurd h (by decide))
    first | exact j_return rfl d_Mod_leaf_40 (ht (by omega)) | exact j_return rfl d_Mod_leaf_40 (hf (by omega))
theorem t_Mod_mustNumber {g : Bool} {d : Nat} {Q : List xM → Option Value → Prop} {i0 i6 i8 i9 i10 i13 i14 i18 i22 i23 i24 i25 i27 i28 i33 i42 i43 i44 i45 i46 i47 i48 i51 i52 : Int} {x1 x2 x3 x4 x5 x7 x11 x12 x15 x16 x17 x26 x29 x30 x31 x32 x34 x35 x36 x37 x38 x39 x40 x41 x49 x50 : Int → Int} (hN0 : 0 ≤ i18) (hN1 : i18 ≤ 400) (hNe : x15 i18 = 0) (hcd : ∀ j, 0 ≤ j → j ≤ i18 → (0 ≤ x15 j ∧ x15 j ≤ 400) ∧ (0 ≤ x16 j ∧ x16 j ≤ 100000000) ∧ (0 ≤ x17 j ∧ x17 j ≤ 400)) {tk lv : Int} (k0 : 0 ≤ tk) (k1 : tk ≤ i18) {lw hi : Int} (q1 : R32 lw) (q2 : R32 hi) (ht : x15 tk = 50 ∧ lw ≤ x16 tk ∧ x16 tk ≤ hi → Q (MM i0 i6 i8 i9 i10 i13 i14 i18 (tk + 1) lv (-1) i22 i23 i24 i25 i27 i28 i33 i42 i43 i44 i45 i46 i47 i48 i51 i52 x1 x2 x3 x4 x5 x7 x11 x12 x15 x16 x17 x26 x29 x30 x31 x32 x34 x35 x36 x37 x38 x39 x40 x41 x49 x50) none) (hf : ¬ (x15 tk = 50 ∧ lw ≤ x16 tk ∧ x16 tk ≤ hi) → Q (MM i0 i6 i8 i9 i10 i13 i14 i18 tk lv (x17 tk) i22 i23 i24 i25 i27 i28 i33 i42 i43 i44 i45 i46 i47 i48 i51 i52 x1 x2 x3 x4 x5 x7 x11 x12 x15 x16 x17 x26 x29 x30 x31 x32 x34 x35 x36 x37 x38 x39 x40 x41 x49 x50) none) : CT g m_Mod_mustNumber (d + 2) [.ref 0, .int (ii lw), .int (ii hi)] (MM i0 i6 i8 i9 i10 i13 i14 i18 tk lv (-1) i22 i23 i24 i25 i27 i28 i33 i42 i43 i44 i45 i46 i47 i48 i51 i52 x1 x2 x3 x4 x5 x7 x11 x12 x15 x16 x17 x26 x29 x30 x31 x32 x34 x35 x36 x37 x38 x39 x40 x41 x49 x50) 0 0 Q := by
  refine CT.of (by decide) (Nat.le_of_ble_eq_true rfl) ?_
  show SJ _ _ _ _ [some (.ref 0), some (.int (ii lw)), some (.int (ii hi))] [] _ _ _ _
  have hck := hcd tk (by omega) (by omega)
  obtain ⟨hbz, hbz2⟩ := hck.2.2
  refine j_aload_n d_Mod_mustNumber_0 rfl ?_
  refine v_call0 d_Mod_mustNumber_1 c_Mod_162 rfl ⟨_, rfl, rfl⟩ (Nat.le_of_ble_eq_true rfl) (g_Mod_fine ?_)
  refine z_if_eq (t := 42) d_Mod_mustNumber_4 (by decide) (by first | omega | exact hw _ | exact hx _ _ | assumption) (fun h => absurd h (by decide)) (fun _ => ?_)
  refine j_aload_n d_Mod_mustNumber_7 rfl ?_
  refine mg_code f_Mod_58 d_Mod_mustNumber_8 ?_
  refine j_aload_n d_Mod_mustNumber_11 rfl ?_
  refine mg_token f_Mod_166 d_Mod_mustNumber_12 ?_
  refine ml_code d_Mod_mustNumber_15 (by omega) (by omega) ?_
  refine z_bipush d_Mod_mustNumber_16 (by decide) ?_
  refine z_icmp_ne (t := 38) d_Mod_mustNumber_18 (by decide) (by first | omega | exact hw _ | exact hx _ _ | assumption) (by first | omega | exact hw _ | exact hx _ _ | assumption) (fun h18 => ?_) (fun h18 => ?_)
  · refine j_aload_n d_Mod_mustNumber_38 rfl ?_
    refine v_call0 d_Mod_mustNumber_39 c_Mod_172 rfl ⟨_, rfl, rfl⟩ (Nat.le_of_ble_eq_true rfl) (t_Mod_faults hN0 hN1 hNe hcd k0 k1 ?_)
    refine j_aload_n d_Mod_mustNumber_42 rfl ?_
    refine v_call0 d_Mod_mustNumber_43 c_Mod_162 rfl ⟨_, rfl, rfl⟩ (Nat.le_of_ble_eq_true rfl) (b_Mod_fine hbz hbz2 ?_)
    refine z_if_eq (t := 59) d_Mod_mustNumber_46 (by decide) (by first | omega | exact hw _ | exact hx _ _ | assumption) (fun _ => ?_) (fun h => absurd h (by decide))
    first | exact j_return rfl d_Mod_mustNumber_59 (ht (by omega)) | exact j_return rfl d_Mod_mustNumber_59 (hf (by omega))
  · refine j_aload_n d_Mod_mustNumber_21 rfl ?_
    refine mg_value f_Mod_61 d_Mod_mustNumber_22 ?_
    refine j_aload_n d_Mod_mustNumber_25 rfl ?_
    refine mg_token f_Mod_166 d_Mod_mustNumber_26 ?_
    refine ml_value d_Mod_mustNumber_29 (by omega) (by omega) ?_
    refine j_iload_n d_Mod_mustNumber_30 rfl ?_
    refine j_iload_n d_Mod_mustNumber_31 rfl ?_
    refine s_call3 d_Mod_mustNumber_32 c_Mod_18 (Nat.le_of_ble_eq_true rfl) (t_Mod_lies (by first | omega | exact hw _ | exact hx _ _ | assumption) (by first | omega | exact hw _ | exact hx _ _ | assumption) (by first | omega | exact hw _ | exact hx _ _ | assumption) (fun h32 => ?_) (fun h32 => ?_))
    · refine z_if_ne (t := 42) d_Mod_mustNumber_35 (by decide) (by first | omega | exact hw _ | exact hx _ _ | assumption) (fun _ => ?_) (fun h => absurd h (by decide))
      refine j_aload_n d_Mod_mustNumber_42 rfl ?_
      refine v_call0 d_Mod_mustNumber_43 c_Mod_162 rfl ⟨_, rfl, rfl⟩ (Nat.le_of_ble_eq_true rfl) (g_Mod_fine ?_)
      refine z_if_eq (t := 59) d_Mod_mustNumber_46 (by decide) (by first | omega | exact hw _ | exact hx _ _ | assumption) (fun h => absurd h (by decide)) (fun _ => ?_)
      refine j_aload_n d_Mod_mustNumber_49 rfl ?_
      refine j_dup d_Mod_mustNumber_50 rfl ?_
      refine mg_token f_Mod_166 d_Mod_mustNumber_51 ?_
      refine z_iconst d_Mod_mustNumber_54 ?_
      refine z_iadd d_Mod_mustNumber_55 ?_
      refine mp_token f_Mod_166 d_Mod_mustNumber_56 ?_
      first | exact j_return rfl d_Mod_mustNumber_59 (ht (by omega)) | exact j_return rfl d_Mod_mustNumber_59 (hf (by omega))
    · refine z_if_ne (t := 42) d_Mod_mustNumber_35 (by decide) (by first | omega | exact hw _ | exact hx _ _ | assumption) (fun h => absurd h (by decide)) (fun _ => ?_)
      refine j_aload_n d_Mod_mustNumber_38 rfl ?_
      refine v_call0 d_Mod_mustNumber_39 c_Mod_172 rfl ⟨_, rfl, rfl⟩ (Nat.le_of_ble_eq_true rfl) (t_Mod_faults hN0 hN1 hNe hcd k0 k1 ?_)
      refine j_aload_n d_Mod_mustNumber_42 rfl ?_
      refine v_call0 d_Mod_mustNumber_43 c_Mod_162 rfl ⟨_, rfl, rfl⟩ (Nat.le_of_ble_eq_true rfl) (b_Mod_fine hbz hbz2 ?_)
      refine z_if_eq (t := 59) d_Mod_mustNumber_46 (by decide) (by first | omega | exact hw _ | exact hx _ _ | assumption) (fun _ => ?_) (fun h => absurd h (by decide))
      first | exact j_return rfl d_Mod_mustNumber_59 (ht (by omega)) | exact j_return rfl d_Mod_mustNumber_59 (hf (by omega))
theorem b_Mod_mustNumber {g : Bool} {d : Nat} {Q : List xM → Option Value → Prop} {i0 i6 i8 i9 i10 i13 i14 i18 i22 i23 i24 i25 i27 i28 i33 i42 i43 i44 i45 i46 i47 i48 i51 i52 : Int} {x1 x2 x3 x4 x5 x7 x11 x12 x15 x16 x17 x26 x29 x30 x31 x32 x34 x35 x36 x37 x38 x39 x40 x41 x49 x50 : Int → Int} {tk lv bq_ : Int} (hbz : 0 ≤ bq_) (hbz2 : bq_ ≤ 400) {lw hi : Int} (hQ : Q (MM i0 i6 i8 i9 i10 i13 i14 i18 tk lv bq_ i22 i23 i24 i25 i27 i28 i33 i42 i43 i44 i45 i46 i47 i48 i51 i52 x1 x2 x3 x4 x5 x7 x11 x12 x15 x16 x17 x26 x29 x30 x31 x32 x34 x35 x36 x37 x38 x39 x40 x41 x49 x50) none) : CT g m_Mod_mustNumber (d + 2) [.ref 0, .int (ii lw), .int (ii hi)] (MM i0 i6 i8 i9 i10 i13 i14 i18 tk lv bq_ i22 i23 i24 i25 i27 i28 i33 i42 i43 i44 i45 i46 i47 i48 i51 i52 x1 x2 x3 x4 x5 x7 x11 x12 x15 x16 x17 x26 x29 x30 x31 x32 x34 x35 x36 x37 x38 x39 x40 x41 x49 x50) 0 0 Q := by
  refine CT.of (by decide) (Nat.le_of_ble_eq_true rfl) ?_
  show SJ _ _ _ _ [some (.ref 0), some (.int (ii lw)), some (.int (ii hi))] [] _ _ _ _
  refine j_aload_n d_Mod_mustNumber_0 rfl ?_
  refine v_call0 d_Mod_mustNumber_1 c_Mod_162 rfl ⟨_, rfl, rfl⟩ (Nat.le_of_ble_eq_true rfl) (b_Mod_fine hbz hbz2 ?_)
  refine z_if_eq (t := 42) d_Mod_mustNumber_4 (by decide) (by first | omega | exact hw _ | exact hx _ _ | assumption) (fun _ => ?_) (fun h => absurd h (by decide))
  refine j_aload_n d_Mod_mustNumber_42 rfl ?_
  refine v_call0 d_Mod_mustNumber_43 c_Mod_162 rfl ⟨_, rfl, rfl⟩ (Nat.le_of_ble_eq_true rfl) (b_Mod_fine hbz hbz2 ?_)
  refine z_if_eq (t := 59) d_Mod_mustNumber_46 (by decide) (by first | omega | exact hw _ | exact hx _ _ | assumption) (fun _ => ?_) (fun h => absurd h (by decide))
  exact j_return rfl d_Mod_mustNumber_59 hQ
theorem b_Mod_readPart {g : Bool} {d : Nat} {Q : List xM → Option Value → Prop} {i0 i6 i8 i9 i10 i13 i14 i18 i22 i23 i24 i25 i27 i28 i33 i42 i43 i44 i45 i46 i47 i48 i51 i52 : Int} {x1 x2 x3 x4 x5 x7 x11 x12 x15 x16 x17 x26 x29 x30 x31 x32 x34 x35 x36 x37 x38 x39 x40 x41 x49 x50 : Int → Int} {tk lv bq_ : Int} (hbz : 0 ≤ bq_) (hbz2 : bq_ ≤ 400) {deep : Int} (hQ : Q (MM i0 i6 i8 i9 i10 i13 i14 i18 tk lv bq_ i22 i23 i24 i25 i27 i28 i33 i42 i43 i44 i45 i46 i47 i48 i51 i52 x1 x2 x3 x4 x5 x7 x11 x12 x15 x16 x17 x26 x29 x30 x31 x32 x34 x35 x36 x37 x38 x39 x40 x41 x49 x50) none) : CT g m_Mod_readPart (d + 1) [.ref 0, .int (ii deep)] (MM i0 i6 i8 i9 i10 i13 i14 i18 tk lv bq_ i22 i23 i24 i25 i27 i28 i33 i42 i43 i44 i45 i46 i47 i48 i51 i52 x1 x2 x3 x4 x5 x7 x11 x12 x15 x16 x17 x26 x29 x30 x31 x32 x34 x35 x36 x37 x38 x39 x40 x41 x49 x50) 0 0 Q := by
  refine CT.of (by decide) (Nat.le_of_ble_eq_true rfl) ?_
  show SJ _ _ _ _ [some (.ref 0), some (.int (ii deep)), none] [] _ _ _ _
  refine j_aload_n d_Mod_readPart_0 rfl ?_
  refine v_call0 d_Mod_readPart_1 c_Mod_162 rfl ⟨_, rfl, rfl⟩ (Nat.le_of_ble_eq_true rfl) (b_Mod_fine hbz hbz2 ?_)
  refine z_if_ne (t := 8) d_Mod_readPart_4 (by decide) (by first | omega | exact hw _ | exact hx _ _ | assumption) (fun h => absurd h (by decide)) (fun _ => ?_)
  exact j_return rfl d_Mod_readPart_7 hQ
theorem b_Mod_readTerm {g : Bool} {d : Nat} {Q : List xM → Option Value → Prop} {i0 i6 i8 i9 i10 i13 i14 i18 i22 i23 i24 i25 i27 i28 i33 i42 i43 i44 i45 i46 i47 i48 i51 i52 : Int} {x1 x2 x3 x4 x5 x7 x11 x12 x15 x16 x17 x26 x29 x30 x31 x32 x34 x35 x36 x37 x38 x39 x40 x41 x49 x50 : Int → Int} {tk lv bq_ : Int} (hbz : 0 ≤ bq_) (hbz2 : bq_ ≤ 400) {deep : Int} (hQ : Q (MM i0 i6 i8 i9 i10 i13 i14 i18 tk lv bq_ i22 i23 i24 i25 i27 i28 i33 i42 i43 i44 i45 i46 i47 i48 i51 i52 x1 x2 x3 x4 x5 x7 x11 x12 x15 x16 x17 x26 x29 x30 x31 x32 x34 x35 x36 x37 x38 x39 x40 x41 x49 x50) none) : CT g m_Mod_readTerm (d + 2) [.ref 0, .int (ii deep)] (MM i0 i6 i8 i9 i10 i13 i14 i18 tk lv bq_ i22 i23 i24 i25 i27 i28 i33 i42 i43 i44 i45 i46 i47 i48 i51 i52 x1 x2 x3 x4 x5 x7 x11 x12 x15 x16 x17 x26 x29 x30 x31 x32 x34 x35 x36 x37 x38 x39 x40 x41 x49 x50) 0 0 Q := by
  refine CT.of (by decide) (Nat.le_of_ble_eq_true rfl) ?_
  show SJ _ _ _ _ [some (.ref 0), some (.int (ii deep))] [] _ _ _ _
  refine j_aload_n d_Mod_readTerm_0 rfl ?_
  refine j_iload_n d_Mod_readTerm_1 rfl ?_
  refine v_call1 d_Mod_readTerm_2 c_Mod_215 rfl ⟨_, rfl, rfl⟩ (Nat.le_of_ble_eq_true rfl) (b_Mod_readPart hbz hbz2 ?_)
  refine j_aload_n d_Mod_readTerm_5 rfl ?_
  refine z_bipush d_Mod_readTerm_6 (by decide) ?_
  refine s_call1 d_Mod_readTerm_8 c_Mod_208 (Nat.le_of_ble_eq_true rfl) (t_Mod_sign  ?_)
  refine v_call1 d_Mod_readTerm_11 c_Mod_169 rfl ⟨_, rfl, rfl⟩ (Nat.le_of_ble_eq_true rfl) (b_Mod_takes0 hbz hbz2 ?_)
  refine z_if_ne (t := 41) d_Mod_readTerm_14 (by decide) (by first | omega | exact hw _ | exact hx _ _ | assumption) (fun h => absurd h (by decide)) (fun _ => ?_)
  refine j_aload_n d_Mod_readTerm_17 rfl ?_
  refine z_bipush d_Mod_readTerm_18 (by decide) ?_
  refine s_call1 d_Mod_readTerm_20 c_Mod_208 (Nat.le_of_ble_eq_true rfl) (t_Mod_sign  ?_)
  refine v_call1 d_Mod_readTerm_23 c_Mod_169 rfl ⟨_, rfl, rfl⟩ (Nat.le_of_ble_eq_true rfl) (b_Mod_takes0 hbz hbz2 ?_)
  refine z_if_ne (t := 41) d_Mod_readTerm_26 (by decide) (by first | omega | exact hw _ | exact hx _ _ | assumption) (fun h => absurd h (by decide)) (fun _ => ?_)
  refine j_aload_n d_Mod_readTerm_29 rfl ?_
  refine z_bipush d_Mod_readTerm_30 (by decide) ?_
  refine s_call1 d_Mod_readTerm_32 c_Mod_208 (Nat.le_of_ble_eq_true rfl) (t_Mod_sign  ?_)
  refine v_call1 d_Mod_readTerm_35 c_Mod_169 rfl ⟨_, rfl, rfl⟩ (Nat.le_of_ble_eq_true rfl) (b_Mod_takes0 hbz hbz2 ?_)
  refine z_if_eq (t := 49) d_Mod_readTerm_38 (by decide) (by first | omega | exact hw _ | exact hx _ _ | assumption) (fun _ => ?_) (fun h => absurd h (by decide))
  exact j_return rfl d_Mod_readTerm_49 hQ
theorem b_Mod_readSum {g : Bool} {d : Nat} {Q : List xM → Option Value → Prop} {i0 i6 i8 i9 i10 i13 i14 i18 i22 i23 i24 i25 i27 i28 i33 i42 i43 i44 i45 i46 i47 i48 i51 i52 : Int} {x1 x2 x3 x4 x5 x7 x11 x12 x15 x16 x17 x26 x29 x30 x31 x32 x34 x35 x36 x37 x38 x39 x40 x41 x49 x50 : Int → Int} {tk lv bq_ : Int} (hbz : 0 ≤ bq_) (hbz2 : bq_ ≤ 400) {deep : Int} (hQ : Q (MM i0 i6 i8 i9 i10 i13 i14 i18 tk lv bq_ i22 i23 i24 i25 i27 i28 i33 i42 i43 i44 i45 i46 i47 i48 i51 i52 x1 x2 x3 x4 x5 x7 x11 x12 x15 x16 x17 x26 x29 x30 x31 x32 x34 x35 x36 x37 x38 x39 x40 x41 x49 x50) none) : CT g m_Mod_readSum (d + 3) [.ref 0, .int (ii deep)] (MM i0 i6 i8 i9 i10 i13 i14 i18 tk lv bq_ i22 i23 i24 i25 i27 i28 i33 i42 i43 i44 i45 i46 i47 i48 i51 i52 x1 x2 x3 x4 x5 x7 x11 x12 x15 x16 x17 x26 x29 x30 x31 x32 x34 x35 x36 x37 x38 x39 x40 x41 x49 x50) 0 0 Q := by
  refine CT.of (by decide) (Nat.le_of_ble_eq_true rfl) ?_
  show SJ _ _ _ _ [some (.ref 0), some (.int (ii deep))] [] _ _ _ _
  refine j_aload_n d_Mod_readSum_0 rfl ?_
  refine j_iload_n d_Mod_readSum_1 rfl ?_
  refine v_call1 d_Mod_readSum_2 c_Mod_212 rfl ⟨_, rfl, rfl⟩ (Nat.le_of_ble_eq_true rfl) (b_Mod_readTerm hbz hbz2 ?_)
  refine j_aload_n d_Mod_readSum_5 rfl ?_
  refine z_bipush d_Mod_readSum_6 (by decide) ?_
  refine s_call1 d_Mod_readSum_8 c_Mod_208 (Nat.le_of_ble_eq_true rfl) (t_Mod_sign  ?_)
  refine v_call1 d_Mod_readSum_11 c_Mod_169 rfl ⟨_, rfl, rfl⟩ (Nat.le_of_ble_eq_true rfl) (b_Mod_takes0 hbz hbz2 ?_)
  refine z_if_ne (t := 29) d_Mod_readSum_14 (by decide) (by first | omega | exact hw _ | exact hx _ _ | assumption) (fun h => absurd h (by decide)) (fun _ => ?_)
  refine j_aload_n d_Mod_readSum_17 rfl ?_
  refine z_bipush d_Mod_readSum_18 (by decide) ?_
  refine s_call1 d_Mod_readSum_20 c_Mod_208 (Nat.le_of_ble_eq_true rfl) (t_Mod_sign  ?_)
  refine v_call1 d_Mod_readSum_23 c_Mod_169 rfl ⟨_, rfl, rfl⟩ (Nat.le_of_ble_eq_true rfl) (b_Mod_takes0 hbz hbz2 ?_)
  refine z_if_eq (t := 37) d_Mod_readSum_26 (by decide) (by first | omega | exact hw _ | exact hx _ _ | assumption) (fun _ => ?_) (fun h => absurd h (by decide))
  exact j_return rfl d_Mod_readSum_37 hQ
