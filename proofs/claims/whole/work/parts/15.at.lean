theorem t_Mod_leastOf {g : Bool} {d : Nat} {Q : List xM → Option Value → Prop} {i0 i6 i8 i9 i10 i13 i14 i18 i19 i20 i21 i22 i23 i24 i25 i27 i28 i33 i42 i43 i44 i45 i46 i47 i48 i51 i52 : Int} {x1 x2 x3 x4 x5 x7 x11 x12 x15 x16 x17 x26 x29 x30 x31 x32 x34 x35 x36 x37 x38 x39 x40 x41 x49 x50 : Int → Int} {a b : Int} (a0 : 0 ≤ a) (a1 : a ≤ 20) (b0 : 0 ≤ b) (b1 : b ≤ 20) (hQ : Q (MM i0 i6 i8 i9 i10 i13 i14 i18 i19 i20 i21 i22 i23 i24 i25 i27 i28 i33 i42 i43 i44 i45 i46 i47 i48 i51 i52 x1 x2 x3 x4 x5 x7 x11 x12 x15 x16 x17 x26 x29 x30 x31 x32 x34 x35 x36 x37 x38 x39 x40 x41 x49 x50) (some (.int (ii ((x34 (21 * a + b))))))) : CT g m_Mod_leastOf d [.ref 0, .int (ii a), .int (ii b)] (MM i0 i6 i8 i9 i10 i13 i14 i18 i19 i20 i21 i22 i23 i24 i25 i27 i28 i33 i42 i43 i44 i45 i46 i47 i48 i51 i52 x1 x2 x3 x4 x5 x7 x11 x12 x15 x16 x17 x26 x29 x30 x31 x32 x34 x35 x36 x37 x38 x39 x40 x41 x49 x50) 0 0 Q := by
  refine CT.of (by decide) (Nat.le_of_ble_eq_true rfl) ?_
  show SJ _ _ _ _ [some (.ref 0), some (.int (ii a)), some (.int (ii b))] [] _ _ _ _
  refine j_aload_n d_Mod_leastOf_0 rfl ?_
  refine mg_least f_Mod_82 d_Mod_leastOf_1 ?_
  refine z_bipush d_Mod_leastOf_4 (by decide) ?_
  refine j_iload_n d_Mod_leastOf_6 rfl ?_
  refine z_imul d_Mod_leastOf_7 ?_
  refine j_iload_n d_Mod_leastOf_8 rfl ?_
  refine z_iadd d_Mod_leastOf_9 ?_
  refine ml_least d_Mod_leastOf_10 (by omega) (by omega) ?_
  exact z_iret rfl d_Mod_leastOf_11 (by first | rfl | omega | simp_all) hQ
theorem t_Mod_byFirst {g : Bool} {d : Nat} {Q : List xM → Option Value → Prop} {i0 i6 i8 i9 i10 i13 i14 i18 i19 i20 i21 i22 i23 i24 i25 i27 i28 i33 i42 i43 i44 i45 i46 i47 i48 i51 i52 : Int} {x1 x2 x3 x4 x5 x7 x11 x12 x15 x16 x17 x26 x29 x30 x31 x32 x34 x35 x36 x37 x38 x39 x40 x41 x49 x50 : Int → Int} {a b : Int} (a0 : 0 ≤ a) (a1 : a < b) (b1 : b ≤ 20) (hQ : Q (MM i0 i6 i8 i9 i10 i13 i14 i18 i19 i20 i21 i22 i23 i24 i25 i27 i28 i33 i42 i43 i44 i45 i46 i47 i48 i51 i52 x1 x2 x3 x4 x5 x7 x11 x12 x15 x16 x17 x26 x29 x30 x31 x32 x34 x35 x36 x37 x38 x39 x40 x41 x49 x50) (some (.int (ii (x36 a - x34 (21 * (a + 1) + b)))))) : CT g m_Mod_byFirst (d + 1) [.ref 0, .int (ii a), .int (ii b)] (MM i0 i6 i8 i9 i10 i13 i14 i18 i19 i20 i21 i22 i23 i24 i25 i27 i28 i33 i42 i43 i44 i45 i46 i47 i48 i51 i52 x1 x2 x3 x4 x5 x7 x11 x12 x15 x16 x17 x26 x29 x30 x31 x32 x34 x35 x36 x37 x38 x39 x40 x41 x49 x50) 0 0 Q := by
  refine CT.of (by decide) (Nat.le_of_ble_eq_true rfl) ?_
  show SJ _ _ _ _ [some (.ref 0), some (.int (ii a)), some (.int (ii b))] [] _ _ _ _
  refine j_aload_n d_Mod_byFirst_0 rfl ?_
  refine mg_strikes0 f_Mod_88 d_Mod_byFirst_1 ?_
  refine j_iload_n d_Mod_byFirst_4 rfl ?_
  refine ml_strikes0 d_Mod_byFirst_5 (by omega) (by omega) ?_
  refine j_aload_n d_Mod_byFirst_6 rfl ?_
  refine j_iload_n d_Mod_byFirst_7 rfl ?_
  refine z_iconst d_Mod_byFirst_8 ?_
  refine z_iadd d_Mod_byFirst_9 ?_
  refine j_iload_n d_Mod_byFirst_10 rfl ?_
  refine v_call2 d_Mod_byFirst_11 c_Mod_384 rfl ⟨_, rfl, rfl⟩ (Nat.le_of_ble_eq_true rfl) (t_Mod_leastOf (by omega) (by omega) (by omega) (by omega) ?_)
  refine z_isub d_Mod_byFirst_14 ?_
  exact z_iret rfl d_Mod_byFirst_15 (by first | rfl | omega | simp_all) hQ
theorem t_Mod_byLast {g : Bool} {d : Nat} {Q : List xM → Option Value → Prop} {i0 i6 i8 i9 i10 i13 i14 i18 i19 i20 i21 i22 i23 i24 i25 i27 i28 i33 i42 i43 i44 i45 i46 i47 i48 i51 i52 : Int} {x1 x2 x3 x4 x5 x7 x11 x12 x15 x16 x17 x26 x29 x30 x31 x32 x34 x35 x36 x37 x38 x39 x40 x41 x49 x50 : Int → Int} {a b : Int} (a0 : 0 ≤ a) (a1 : a < b) (b1 : b ≤ 20) (hQ : Q (MM i0 i6 i8 i9 i10 i13 i14 i18 i19 i20 i21 i22 i23 i24 i25 i27 i28 i33 i42 i43 i44 i45 i46 i47 i48 i51 i52 x1 x2 x3 x4 x5 x7 x11 x12 x15 x16 x17 x26 x29 x30 x31 x32 x34 x35 x36 x37 x38 x39 x40 x41 x49 x50) (some (.int (ii (x36 (b - 1) - x34 (21 * a + (b - 1))))))) : CT g m_Mod_byLast (d + 1) [.ref 0, .int (ii a), .int (ii b)] (MM i0 i6 i8 i9 i10 i13 i14 i18 i19 i20 i21 i22 i23 i24 i25 i27 i28 i33 i42 i43 i44 i45 i46 i47 i48 i51 i52 x1 x2 x3 x4 x5 x7 x11 x12 x15 x16 x17 x26 x29 x30 x31 x32 x34 x35 x36 x37 x38 x39 x40 x41 x49 x50) 0 0 Q := by
  refine CT.of (by decide) (Nat.le_of_ble_eq_true rfl) ?_
  show SJ _ _ _ _ [some (.ref 0), some (.int (ii a)), some (.int (ii b))] [] _ _ _ _
  refine j_aload_n d_Mod_byLast_0 rfl ?_
  refine mg_strikes0 f_Mod_88 d_Mod_byLast_1 ?_
  refine j_iload_n d_Mod_byLast_4 rfl ?_
  refine z_iconst d_Mod_byLast_5 ?_
  refine z_isub d_Mod_byLast_6 ?_
  refine ml_strikes0 d_Mod_byLast_7 (by omega) (by omega) ?_
  refine j_aload_n d_Mod_byLast_8 rfl ?_
  refine j_iload_n d_Mod_byLast_9 rfl ?_
  refine j_iload_n d_Mod_byLast_10 rfl ?_
  refine z_iconst d_Mod_byLast_11 ?_
  refine z_isub d_Mod_byLast_12 ?_
  refine v_call2 d_Mod_byLast_13 c_Mod_384 rfl ⟨_, rfl, rfl⟩ (Nat.le_of_ble_eq_true rfl) (t_Mod_leastOf (by omega) (by omega) (by omega) (by omega) ?_)
  refine z_isub d_Mod_byLast_16 ?_
  exact z_iret rfl d_Mod_byLast_17 (by first | rfl | omega | simp_all) hQ
theorem t_Mod_arePair {g : Bool} {d : Nat} {Q : List xM → Option Value → Prop} {i0 i6 i8 i9 i10 i13 i14 i18 i19 i20 i21 i22 i23 i24 i25 i27 i28 i33 i42 i43 i44 i45 i46 i47 i48 i51 i52 : Int} {x1 x2 x3 x4 x5 x7 x11 x12 x15 x16 x17 x26 x29 x30 x31 x32 x34 x35 x36 x37 x38 x39 x40 x41 x49 x50 : Int → Int} {p q : Int} (p0 : 0 ≤ p) (p1 : p < 20) (q0 : 0 ≤ q) (q1 : q < 20) (s1 : 0 ≤ x2 (1 + p)) (s2 : x2 (1 + p) ≤ 11) (s3 : 0 ≤ x2 (1 + q)) (s4 : x2 (1 + q) ≤ 11) (ht : x2 (1 + p) < 3 ∧ (3 ≤ x2 (1 + q) ∧ x2 (1 + q) ≤ 5) ∧ kd (x2 (1 + p)) = kd (x2 (1 + q)) → Q (MM i0 i6 i8 i9 i10 i13 i14 i18 i19 i20 i21 i22 i23 i24 i25 i27 i28 i33 i42 i43 i44 i45 i46 i47 i48 i51 i52 x1 x2 x3 x4 x5 x7 x11 x12 x15 x16 x17 x26 x29 x30 x31 x32 x34 x35 x36 x37 x38 x39 x40 x41 x49 x50) (some (.int (ii 1)))) (hf : ¬ (x2 (1 + p) < 3 ∧ (3 ≤ x2 (1 + q) ∧ x2 (1 + q) ≤ 5) ∧ kd (x2 (1 + p)) = kd (x2 (1 + q))) → Q (MM i0 i6 i8 i9 i10 i13 i14 i18 i19 i20 i21 i22 i23 i24 i25 i27 i28 i33 i42 i43 i44 i45 i46 i47 i48 i51 i52 x1 x2 x3 x4 x5 x7 x11 x12 x15 x16 x17 x26 x29 x30 x31 x32 x34 x35 x36 x37 x38 x39 x40 x41 x49 x50) (some (.int (ii 0)))) : CT g m_Mod_arePair (d + 2) [.ref 0, .int (ii p), .int (ii q)] (MM i0 i6 i8 i9 i10 i13 i14 i18 i19 i20 i21 i22 i23 i24 i25 i27 i28 i33 i42 i43 i44 i45 i46 i47 i48 i51 i52 x1 x2 x3 x4 x5 x7 x11 x12 x15 x16 x17 x26 x29 x30 x31 x32 x34 x35 x36 x37 x38 x39 x40 x41 x49 x50) 0 0 Q := by
  refine CT.of (by decide) (Nat.le_of_ble_eq_true rfl) ?_
  show SJ _ _ _ _ [some (.ref 0), some (.int (ii p)), some (.int (ii q))] [] _ _ _ _
  refine j_aload_n d_Mod_arePair_0 rfl ?_
  refine j_iload_n d_Mod_arePair_1 rfl ?_
  refine v_call1 d_Mod_arePair_2 c_Mod_324 rfl ⟨_, rfl, rfl⟩ (Nat.le_of_ble_eq_true rfl) (t_Mod_signAt (by omega) (by omega) ?_)
  refine s_call1 d_Mod_arePair_5 c_Mod_312 (Nat.le_of_ble_eq_true rfl) (t_Mod_opens0 (by first | omega | exact hw _ | exact hx _ _ | assumption) (fun h5 => ?_) (fun h5 => ?_))
  · refine z_if_eq (t := 45) d_Mod_arePair_8 (by decide) (by first | omega | exact hw _ | exact hx _ _ | assumption) (fun h => absurd h (by decide)) (fun _ => ?_)
    refine j_aload_n d_Mod_arePair_11 rfl ?_
    refine j_iload_n d_Mod_arePair_12 rfl ?_
    refine v_call1 d_Mod_arePair_13 c_Mod_324 rfl ⟨_, rfl, rfl⟩ (Nat.le_of_ble_eq_true rfl) (t_Mod_signAt (by omega) (by omega) ?_)
    refine s_call1 d_Mod_arePair_16 c_Mod_333 (Nat.le_of_ble_eq_true rfl) (t_Mod_closes0 (by first | omega | exact hw _ | exact hx _ _ | assumption) (fun h16 => ?_) (fun h16 => ?_))
    · refine z_if_eq (t := 45) d_Mod_arePair_19 (by decide) (by first | omega | exact hw _ | exact hx _ _ | assumption) (fun h => absurd h (by decide)) (fun _ => ?_)
      refine j_aload_n d_Mod_arePair_22 rfl ?_
      refine j_iload_n d_Mod_arePair_23 rfl ?_
      refine v_call1 d_Mod_arePair_24 c_Mod_324 rfl ⟨_, rfl, rfl⟩ (Nat.le_of_ble_eq_true rfl) (t_Mod_signAt (by omega) (by omega) ?_)
      refine s_call1 d_Mod_arePair_27 c_Mod_309 (Nat.le_of_ble_eq_true rfl) (t_Mod_kindOf (by first | omega | exact hw _ | exact hx _ _ | assumption) ?_)
      refine j_aload_n d_Mod_arePair_30 rfl ?_
      refine j_iload_n d_Mod_arePair_31 rfl ?_
      refine v_call1 d_Mod_arePair_32 c_Mod_324 rfl ⟨_, rfl, rfl⟩ (Nat.le_of_ble_eq_true rfl) (t_Mod_signAt (by omega) (by omega) ?_)
      refine s_call1 d_Mod_arePair_35 c_Mod_309 (Nat.le_of_ble_eq_true rfl) (t_Mod_kindOf (by first | omega | exact hw _ | exact hx _ _ | assumption) ?_)
      refine z_icmp_ne (t := 45) d_Mod_arePair_38 (by decide) (kd_R (by omega)) (kd_R (by omega)) (fun h38 => ?_) (fun h38 => ?_)
      · refine z_iconst d_Mod_arePair_45 ?_
        exact z_zreturn rfl (Or.inl rfl) d_Mod_arePair_46 (hf (by first | omega | simp_all))
      · refine z_iconst d_Mod_arePair_41 ?_
        refine j_goto (t := 46) d_Mod_arePair_42 (by decide) ?_
        exact z_zreturn rfl (Or.inr rfl) d_Mod_arePair_46 (ht (by first | omega | simp_all))
    · refine z_if_eq (t := 45) d_Mod_arePair_19 (by decide) (by first | omega | exact hw _ | exact hx _ _ | assumption) (fun _ => ?_) (fun h => absurd h (by decide))
      refine z_iconst d_Mod_arePair_45 ?_
      exact z_zreturn rfl (Or.inl rfl) d_Mod_arePair_46 (hf (by first | omega | simp_all))
  · refine z_if_eq (t := 45) d_Mod_arePair_8 (by decide) (by first | omega | exact hw _ | exact hx _ _ | assumption) (fun _ => ?_) (fun h => absurd h (by decide))
    refine z_iconst d_Mod_arePair_45 ?_
    exact z_zreturn rfl (Or.inl rfl) d_Mod_arePair_46 (hf (by first | omega | simp_all))
theorem t_Mod_small {g : Bool} {d : Nat} {Q : List xM → Option Value → Prop} {mem : List xM} {v : Int} (r1 : R64 v) (h0 : ¬ (0 ≤ v ∧ v ≤ 1000000) → Q mem (some (.int (ii (-1))))) (h1 : 0 ≤ v ∧ v ≤ 1000000 → Q mem (some (.int (ii v)))) : CT g m_Mod_small d [.long (ll v)] mem 0 0 Q := by
  refine CT.of (by decide) (Nat.le_of_ble_eq_true rfl) ?_
  show SJ _ _ _ _ [some (.long (ll v)), none] [] _ _ _ _
  refine j_lload_n d_Mod_small_0 rfl ?_
  refine z_lconst (v := 0) d_Mod_small_1 (by decide) ?_
  refine z_lcmp_lt (t := 14) d_Mod_small_2 d_Mod_small_3 (by decide) (by first | omega | exact hw _ | exact hx _ _ | assumption) (by first | omega | exact hw _ | exact hx _ _ | assumption) (fun h2 => ?_) (fun h2 => ?_)
  · refine z_iconst d_Mod_small_14 ?_
    refine j_goto (t := 20) d_Mod_small_15 (by decide) ?_
    first | exact z_iret rfl d_Mod_small_20 rfl (h0 (by omega)) | exact z_iret rfl d_Mod_small_20 rfl (h1 (by omega))
  · refine j_lload_n d_Mod_small_6 rfl ?_
    refine z_ldc2 (w := 1000000) d_Mod_small_7 k_Mod_491 (by decide) ?_
    refine z_lcmp_le (t := 18) d_Mod_small_10 d_Mod_small_11 (by decide) (by first | omega | exact hw _ | exact hx _ _ | assumption) (by first | omega | exact hw _ | exact hx _ _ | assumption) (fun h10 => ?_) (fun h10 => ?_)
    · refine j_lload_n d_Mod_small_18 rfl ?_
      refine z_l2i d_Mod_small_19 (by first | omega | exact hw _ | exact hx _ _ | assumption) ?_
      first | exact z_iret rfl d_Mod_small_20 rfl (h0 (by omega)) | exact z_iret rfl d_Mod_small_20 rfl (h1 (by omega))
    · refine z_iconst d_Mod_small_14 ?_
      refine j_goto (t := 20) d_Mod_small_15 (by decide) ?_
      first | exact z_iret rfl d_Mod_small_20 rfl (h0 (by omega)) | exact z_iret rfl d_Mod_small_20 rfl (h1 (by omega))
theorem t_Mod_draws {g : Bool} {d : Nat} {Q : List xM → Option Value → Prop} {i0 i6 i8 i9 i10 i13 i14 i18 i19 i20 i21 i22 i23 i24 i25 i27 i28 i33 i42 i43 i44 i45 i46 i47 i48 i51 i52 : Int} {x1 x2 x3 x4 x5 x7 x11 x12 x15 x16 x17 x26 x29 x30 x31 x32 x34 x35 x36 x37 x38 x39 x40 x41 x49 x50 : Int → Int} {k : Int} (k0 : 1 ≤ k) (k1 : k ≤ 100) (l0 : 0 ≤ i52) (l1 : i52 ≤ 1000003) (hQ : Q (MM i0 i6 i8 i9 i10 i13 i14 i18 i19 i20 i21 i22 i23 i24 i25 i27 i28 i33 i42 i43 i44 i45 i46 i47 i48 i51 ((1103 * i52 + 12345).tmod 1000003) x1 x2 x3 x4 x5 x7 x11 x12 x15 x16 x17 x26 x29 x30 x31 x32 x34 x35 x36 x37 x38 x39 x40 x41 x49 x50) (some (.int (ii (((1103 * i52 + 12345).tmod 1000003).tmod k))))) : CT g m_Mod_draws d [.ref 0, .int (ii k)] (MM i0 i6 i8 i9 i10 i13 i14 i18 i19 i20 i21 i22 i23 i24 i25 i27 i28 i33 i42 i43 i44 i45 i46 i47 i48 i51 i52 x1 x2 x3 x4 x5 x7 x11 x12 x15 x16 x17 x26 x29 x30 x31 x32 x34 x35 x36 x37 x38 x39 x40 x41 x49 x50) 0 0 Q := by
  refine CT.of (by decide) (Nat.le_of_ble_eq_true rfl) ?_
  show SJ _ _ _ _ [some (.ref 0), some (.int (ii k))] [] _ _ _ _
  have hm1 := Int.tmod_nonneg 1000003 (show 0 ≤ 1103 * i52 + 12345 by omega)
  have hm2 := Int.tmod_lt_of_pos (1103 * i52 + 12345) (show (0 : Int) < 1000003 by decide)
  refine j_aload_n d_Mod_draws_0 rfl ?_
  refine z_ldc2 (w := 1103) d_Mod_draws_1 k_Mod_504 (by decide) ?_
  refine j_aload_n d_Mod_draws_4 rfl ?_
  refine mg_latest f_Mod_506 d_Mod_draws_5 ?_
  refine z_i2l d_Mod_draws_8 (by first | omega | exact hw _ | exact hx _ _ | assumption) ?_
  refine z_lmul d_Mod_draws_9 ?_
  refine z_ldc2 (w := 12345) d_Mod_draws_10 k_Mod_509 (by decide) ?_
  refine z_ladd d_Mod_draws_13 ?_
  refine z_ldc2 (w := 1000003) d_Mod_draws_14 k_Mod_511 (by decide) ?_
  refine z_lrem d_Mod_draws_17 (by first | omega | exact hw _ | exact hx _ _ | assumption) (by first | omega | exact hw _ | exact hx _ _ | assumption) (by decide) ?_
  refine z_l2i d_Mod_draws_18 (by first | omega | exact hw _ | exact hx _ _ | assumption) ?_
  refine mp_latest f_Mod_506 d_Mod_draws_19 ?_
  refine j_aload_n d_Mod_draws_22 rfl ?_
  refine mg_latest f_Mod_506 d_Mod_draws_23 ?_
  refine j_iload_n d_Mod_draws_26 rfl ?_
  refine z_irem d_Mod_draws_27 (by omega) (by omega) (by omega) ?_
  exact z_iret rfl d_Mod_draws_28 (by first | rfl | omega | simp_all) hQ
theorem lp_allAside {g : Bool} {d : Nat} {Q : List xM → Option Value → Prop} {i0 i6 i8 i9 i10 i13 i14 i18 i19 i20 i21 i22 i23 i24 i25 i27 i28 i33 i42 i43 i44 i45 i46 i47 i48 i51 i52 : Int} {x1 x2 x3 x4 x5 x7 x11 x12 x15 x16 x17 x26 x29 x30 x31 x32 x34 x35 x36 x37 x38 x39 x40 x41 x49 x50 : Int → Int} (hQ : Q (MM i0 i6 i8 i9 i10 i13 i14 i18 i19 i20 i21 i22 i23 i24 i25 i27 i28 i33 i42 i43 i44 i45 i33 i47 i48 i51 i52 x1 x2 x3 x4 x5 x7 x11 x12 x15 x16 x17 x26 x29 x30 x31 (cpy x31 x32 0 0 368) x34 x35 x36 x37 x38 x39 x40 x41 x49 x50) none) : ∀ (nn : Nat) (k : Int), (368 - k).toNat = nn → 0 ≤ k → k ≤ 368 → SJ g m_Mod_laysAllAside (d + 1) 7 [some (.ref 0), some (.int (ii k))] [] (MM i0 i6 i8 i9 i10 i13 i14 i18 i19 i20 i21 i22 i23 i24 i25 i27 i28 i33 i42 i43 i44 i45 i46 i47 i48 i51 i52 x1 x2 x3 x4 x5 x7 x11 x12 x15 x16 x17 x26 x29 x30 x31 (cpy x31 x32 0 0 k) x34 x35 x36 x37 x38 x39 x40 x41 x49 x50) 0 0 Q := by
  intro nn
  induction nn using Nat.strongRecOn with
  | ind nn ih =>
  intro k hn a1 a2
  refine j_iload_n d_Mod_laysAllAside_7 rfl ?_
  refine z_sipush d_Mod_laysAllAside_8 (by decide) ?_
  refine z_icmp_ge (t := 32) d_Mod_laysAllAside_11 (by decide) (by first | omega | exact hw _ | exact hx _ _ | assumption) (by first | omega | exact hw _ | exact hx _ _ | assumption) (fun h11 => ?_) (fun h11 => ?_)
  · have e : k = 368 := by omega
    subst e
    refine j_aload_n d_Mod_laysAllAside_32 rfl ?_
    refine j_aload_n d_Mod_laysAllAside_33 rfl ?_
    refine mg_undoMany f_Mod_11 d_Mod_laysAllAside_34 ?_
    refine mp_undoAhead f_Mod_461 d_Mod_laysAllAside_37 ?_
    exact j_return rfl d_Mod_laysAllAside_40 hQ
  · refine j_aload_n d_Mod_laysAllAside_14 rfl ?_
    refine mg_leftAhead f_Mod_79 d_Mod_laysAllAside_15 ?_
    refine j_iload_n d_Mod_laysAllAside_18 rfl ?_
    refine j_aload_n d_Mod_laysAllAside_19 rfl ?_
    refine mg_left0 f_Mod_76 d_Mod_laysAllAside_20 ?_
    refine j_iload_n d_Mod_laysAllAside_23 rfl ?_
    refine ml_left0 d_Mod_laysAllAside_24 (by omega) (by omega) ?_
    refine ms_leftAhead d_Mod_laysAllAside_25 (by omega) (by omega) ?_
    rw [cpy_s (sp := 0) (dp := 0) (by omega) (by simp) (by simp)]
    refine z_iinc d_Mod_laysAllAside_26 rfl (by decide) ?_
    show SJ _ _ _ _ [_, _] _ _ _ _ _
    refine j_goto (t := 7) d_Mod_laysAllAside_29 (by decide) ?_
    exact ih _ (by omega) _ rfl (by omega) (by omega)
theorem t_Mod_laysAllAside {g : Bool} {d : Nat} {Q : List xM → Option Value → Prop} {i0 i6 i8 i9 i10 i13 i14 i18 i19 i20 i21 i22 i23 i24 i25 i27 i28 i33 i42 i43 i44 i45 i46 i47 i48 i51 i52 : Int} {x1 x2 x3 x4 x5 x7 x11 x12 x15 x16 x17 x26 x29 x30 x31 x32 x34 x35 x36 x37 x38 x39 x40 x41 x49 x50 : Int → Int} (hQ : Q (MM i0 i6 i8 i9 i10 i13 i14 i18 i19 i20 i21 i22 i23 i24 i25 i27 i28 i33 i42 i43 i44 i45 i33 i47 i48 i51 i52 x1 x2 x3 x4 (cpy x2 x5 0 (22 * 1) 22) x7 x11 x12 x15 x16 x17 x26 x29 x30 x31 (cpy x31 x32 0 0 368) x34 x35 x36 x37 x38 x39 x40 x41 x49 x50) none) : CT g m_Mod_laysAllAside (d + 1) [.ref 0] (MM i0 i6 i8 i9 i10 i13 i14 i18 i19 i20 i21 i22 i23 i24 i25 i27 i28 i33 i42 i43 i44 i45 i46 i47 i48 i51 i52 x1 x2 x3 x4 x5 x7 x11 x12 x15 x16 x17 x26 x29 x30 x31 x32 x34 x35 x36 x37 x38 x39 x40 x41 x49 x50) 0 0 Q := by
  refine CT.of (by decide) (Nat.le_of_ble_eq_true rfl) ?_
  show SJ _ _ _ _ [some (.ref 0), none] [] _ _ _ _
  refine j_aload_n d_Mod_laysAllAside_0 rfl ?_
  refine z_iconst d_Mod_laysAllAside_1 ?_
  refine v_call1 d_Mod_laysAllAside_2 c_Mod_458 rfl ⟨_, rfl, rfl⟩ (Nat.le_of_ble_eq_true rfl) (t_Mod_laysAside (by omega) (by omega) ?_)
  refine z_iconst d_Mod_laysAllAside_5 ?_
  refine j_istore_n d_Mod_laysAllAside_6 (by decide) ?_
  show SJ _ _ _ _ [_, _] _ _ _ _ _
  have q := lp_allAside (d := d) (g := g) (i46 := i46) hQ _ 0 rfl (by omega) (by omega)
  rw [cpy_0] at q
  exact q
theorem lp_allBack {g : Bool} {d : Nat} {Q : List xM → Option Value → Prop} {i0 i6 i8 i9 i10 i13 i14 i18 i19 i20 i21 i22 i23 i24 i25 i27 i28 i33 i42 i43 i44 i45 i46 i47 i48 i51 i52 : Int} {x1 x2 x3 x4 x5 x7 x11 x12 x15 x16 x17 x26 x29 x30 x31 x32 x34 x35 x36 x37 x38 x39 x40 x41 x49 x50 : Int → Int} (hQ : Q (MM i0 i6 i8 i9 i10 i13 i14 i18 i19 i20 i21 i22 i23 i24 i25 i27 i28 i46 i42 i43 i44 i45 i46 i47 i48 i51 i52 x1 x2 x3 x4 x5 x7 x11 x12 x15 x16 x17 x26 x29 x30 (cpy x32 x31 0 0 368) x32 x34 x35 x36 x37 x38 x39 x40 x41 x49 x50) none) : ∀ (nn : Nat) (k : Int), (368 - k).toNat = nn → 0 ≤ k → k ≤ 368 → SJ g m_Mod_takesAllBack (d + 1) 7 [some (.ref 0), some (.int (ii k))] [] (MM i0 i6 i8 i9 i10 i13 i14 i18 i19 i20 i21 i22 i23 i24 i25 i27 i28 i33 i42 i43 i44 i45 i46 i47 i48 i51 i52 x1 x2 x3 x4 x5 x7 x11 x12 x15 x16 x17 x26 x29 x30 (cpy x32 x31 0 0 k) x32 x34 x35 x36 x37 x38 x39 x40 x41 x49 x50) 0 0 Q := by
  intro nn
  induction nn using Nat.strongRecOn with
  | ind nn ih =>
  intro k hn a1 a2
  refine j_iload_n d_Mod_takesAllBack_7 rfl ?_
  refine z_sipush d_Mod_takesAllBack_8 (by decide) ?_
  refine z_icmp_ge (t := 32) d_Mod_takesAllBack_11 (by decide) (by first | omega | exact hw _ | exact hx _ _ | assumption) (by first | omega | exact hw _ | exact hx _ _ | assumption) (fun h11 => ?_) (fun h11 => ?_)
  · have e : k = 368 := by omega
    subst e
    refine j_aload_n d_Mod_takesAllBack_32 rfl ?_
    refine j_aload_n d_Mod_takesAllBack_33 rfl ?_
    refine mg_undoAhead f_Mod_461 d_Mod_takesAllBack_34 ?_
    refine mp_undoMany f_Mod_11 d_Mod_takesAllBack_37 ?_
    exact j_return rfl d_Mod_takesAllBack_40 hQ
  · refine j_aload_n d_Mod_takesAllBack_14 rfl ?_
    refine mg_left0 f_Mod_76 d_Mod_takesAllBack_15 ?_
    refine j_iload_n d_Mod_takesAllBack_18 rfl ?_
    refine j_aload_n d_Mod_takesAllBack_19 rfl ?_
    refine mg_leftAhead f_Mod_79 d_Mod_takesAllBack_20 ?_
    refine j_iload_n d_Mod_takesAllBack_23 rfl ?_
    refine ml_leftAhead d_Mod_takesAllBack_24 (by omega) (by omega) ?_
    refine ms_left0 d_Mod_takesAllBack_25 (by omega) (by omega) ?_
    rw [cpy_s (sp := 0) (dp := 0) (by omega) (by simp) (by simp)]
    refine z_iinc d_Mod_takesAllBack_26 rfl (by decide) ?_
    show SJ _ _ _ _ [_, _] _ _ _ _ _
    refine j_goto (t := 7) d_Mod_takesAllBack_29 (by decide) ?_
    exact ih _ (by omega) _ rfl (by omega) (by omega)
theorem t_Mod_takesAllBack {g : Bool} {d : Nat} {Q : List xM → Option Value → Prop} {i0 i6 i8 i9 i10 i13 i14 i18 i19 i20 i21 i22 i23 i24 i25 i27 i28 i33 i42 i43 i44 i45 i46 i47 i48 i51 i52 : Int} {x1 x2 x3 x4 x5 x7 x11 x12 x15 x16 x17 x26 x29 x30 x31 x32 x34 x35 x36 x37 x38 x39 x40 x41 x49 x50 : Int → Int} (hQ : Q (MM i0 i6 i8 i9 i10 i13 i14 i18 i19 i20 i21 i22 i23 i24 i25 i27 i28 i46 i42 i43 i44 i45 i46 i47 i48 i51 i52 x1 (cpy x5 x2 (22 * 1) 0 22) x3 x4 x5 x7 x11 x12 x15 x16 x17 x26 x29 x30 (cpy x32 x31 0 0 368) x32 x34 x35 x36 x37 x38 x39 x40 x41 x49 x50) none) : CT g m_Mod_takesAllBack (d + 1) [.ref 0] (MM i0 i6 i8 i9 i10 i13 i14 i18 i19 i20 i21 i22 i23 i24 i25 i27 i28 i33 i42 i43 i44 i45 i46 i47 i48 i51 i52 x1 x2 x3 x4 x5 x7 x11 x12 x15 x16 x17 x26 x29 x30 x31 x32 x34 x35 x36 x37 x38 x39 x40 x41 x49 x50) 0 0 Q := by
  refine CT.of (by decide) (Nat.le_of_ble_eq_true rfl) ?_
  show SJ _ _ _ _ [some (.ref 0), none] [] _ _ _ _
  refine j_aload_n d_Mod_takesAllBack_0 rfl ?_
  refine z_iconst d_Mod_takesAllBack_1 ?_
  refine v_call1 d_Mod_takesAllBack_2 c_Mod_464 rfl ⟨_, rfl, rfl⟩ (Nat.le_of_ble_eq_true rfl) (t_Mod_takesBack (by omega) (by omega) ?_)
  refine z_iconst d_Mod_takesAllBack_5 ?_
  refine j_istore_n d_Mod_takesAllBack_6 (by decide) ?_
  show SJ _ _ _ _ [_, _] _ _ _ _ _
  have q := lp_allBack (d := d) (g := g) (i33 := i33) hQ _ 0 rfl (by omega) (by omega)
  rw [cpy_0] at q
  exact q
theorem t_Mod_at {g : Bool} {d : Nat} {Q : List xM → Option Value → Prop} {i0 i6 i8 i9 i10 i13 i14 i18 i19 i20 i21 i22 i23 i24 i25 i27 i28 i33 i42 i43 i44 i45 i46 i47 i48 i51 i52 : Int} {x1 x2 x3 x4 x5 x7 x11 x12 x15 x16 x17 x26 x29 x30 x31 x32 x34 x35 x36 x37 x38 x39 x40 x41 x49 x50 : Int → Int} {p what : Int} (r1 : R32 p) (r2 : R32 what) (hn0 : 0 ≤ x2 0) (hn1 : x2 0 ≤ 20) (hs : ∀ j, 0 ≤ j → j < x2 0 → 0 ≤ x2 (1 + j) ∧ x2 (1 + j) ≤ 11) (hf : ¬ (0 ≤ p ∧ p < x2 0) → Q (MM i0 i6 i8 i9 i10 i13 i14 i18 i19 i20 i21 i22 i23 i24 i25 i27 i28 i33 i42 i43 i44 i45 i46 i47 i48 i51 i52 x1 x2 x3 x4 x5 x7 x11 x12 x15 x16 x17 x26 x29 x30 x31 x32 x34 x35 x36 x37 x38 x39 x40 x41 x49 x50) (some (.int (ii (-1))))) (hQ : 0 ≤ p ∧ p < x2 0 → Q (MM i0 i6 i8 i9 i10 i13 i14 i18 i19 i20 i21 i22 i23 i24 i25 i27 i28 i33 i42 i43 i44 i45 i46 i47 i48 i51 i52 x1 x2 x3 x4 x5 x7 x11 x12 x15 x16 x17 x26 (prR x2 0 (x2 0) x29 x30).2.2.1 (prR x2 0 (x2 0) x29 x30).2.2.2 x31 x32 x34 x35 x36 x37 x38 x39 x40 x41 x49 x50) (some (.int (ii (if what = 0 then x2 (1 + p) else if what = 1 then mt x2 p else if what = 2 then dp x2 p else if what = 3 then (if x2 (1 + p) < 6 ∧ mt x2 p = -1 then 1 else 0) else -1))))) : CT g m_Mod_at (d + 4) [.ref 0, .int (ii p), .int (ii what)] (MM i0 i6 i8 i9 i10 i13 i14 i18 i19 i20 i21 i22 i23 i24 i25 i27 i28 i33 i42 i43 i44 i45 i46 i47 i48 i51 i52 x1 x2 x3 x4 x5 x7 x11 x12 x15 x16 x17 x26 x29 x30 x31 x32 x34 x35 x36 x37 x38 x39 x40 x41 x49 x50) 0 0 Q := by
  refine CT.of (by decide) (Nat.le_of_ble_eq_true rfl) ?_
  show SJ _ _ _ _ [some (.ref 0), some (.int (ii p)), some (.int (ii what))] [] _ _ _ _
  refine j_aload_n d_Mod_at_0 rfl ?_
  refine j_iload_n d_Mod_at_1 rfl ?_
  refine v_call1 d_Mod_at_2 c_Mod_339 rfl ⟨_, rfl, rfl⟩ (Nat.le_of_ble_eq_true rfl) (t_Mod_isPlace (by first | omega | exact hw _ | exact hx _ _ | assumption) (by omega) (by omega) (fun h2 => ?_) (fun h2 => ?_))
  · refine z_if_ne (t := 10) d_Mod_at_5 (by decide) (by first | omega | exact hw _ | exact hx _ _ | assumption) (fun _ => ?_) (fun h => absurd h (by decide))
    refine j_aload_n d_Mod_at_10 rfl ?_
    refine v_call0 d_Mod_at_11 c_Mod_294 rfl ⟨_, rfl, rfl⟩ (Nat.le_of_ble_eq_true rfl) (t_Mod_looseMany hn0 hn1 hs ?_)
    refine j_pop d_Mod_at_14 rfl ?_
    have hmt := mt_eq (K := x2) x29 x30 (q := p) (by omega) (by omega)
    have hmr := mt_R (K := x2) hn1 x29 x30 (q := p) (by omega) (by omega)
    have hsp := hs p (by omega) (by omega)
    refine j_iload_n d_Mod_at_15 rfl ?_
    refine z_case (0) (fun h16_0 => ?_) (fun h16_0 => ?_)
    · refine z_tabIn (t := 48) (o := 32) d_Mod_at_16 (by first | omega | exact hw _ | exact hx _ _ | assumption) (by omega) (by omega) (by rw [h16_0]; rfl) (by decide) ?_
      refine j_aload_n d_Mod_at_48 rfl ?_
      refine j_iload_n d_Mod_at_49 rfl ?_
      refine v_call1 d_Mod_at_50 c_Mod_324 rfl ⟨_, rfl, rfl⟩ (Nat.le_of_ble_eq_true rfl) (t_Mod_signAt (by omega) (by omega) ?_)
      exact z_iret rfl d_Mod_at_53 (by rw [if_pos (by omega)]) (hQ (by omega))
    refine z_case (1) (fun h16_1 => ?_) (fun h16_1 => ?_)
    · refine z_tabIn (t := 54) (o := 38) d_Mod_at_16 (by first | omega | exact hw _ | exact hx _ _ | assumption) (by omega) (by omega) (by rw [h16_1]; rfl) (by decide) ?_
      refine j_aload_n d_Mod_at_54 rfl ?_
      refine mg_pairOf f_Mod_70 d_Mod_at_55 ?_
      refine j_iload_n d_Mod_at_58 rfl ?_
      refine ml_pairOf d_Mod_at_59 (by omega) (by omega) ?_
      exact z_iret rfl d_Mod_at_60 (by rw [if_neg (by omega), if_pos (by omega)]; exact hmt) (hQ (by omega))
    refine z_case (2) (fun h16_2 => ?_) (fun h16_2 => ?_)
    · refine z_tabIn (t := 61) (o := 45) d_Mod_at_16 (by first | omega | exact hw _ | exact hx _ _ | assumption) (by omega) (by omega) (by rw [h16_2]; rfl) (by decide) ?_
      refine j_aload_n d_Mod_at_61 rfl ?_
      refine j_iload_n d_Mod_at_62 rfl ?_
      refine v_call1 d_Mod_at_63 c_Mod_342 rfl ⟨_, rfl, rfl⟩ (Nat.le_of_ble_eq_true rfl) (t_Mod_deepOf (by omega) (by omega) (fun j h1 h2 => by have := mt_R (K := x2) hn1 x29 x30 (q := j) h1 (by omega); omega) ?_)
      exact z_iret rfl d_Mod_at_66 (by rw [if_neg (by omega), if_neg (by omega), if_pos (by omega)]; exact dp_eq x29 x30 (by omega) (by omega)) (hQ (by omega))
    refine z_case (3) (fun h16_3 => ?_) (fun h16_3 => ?_)
    · refine z_tabIn (t := 67) (o := 51) d_Mod_at_16 (by first | omega | exact hw _ | exact hx _ _ | assumption) (by omega) (by omega) (by rw [h16_3]; rfl) (by decide) ?_
      refine j_aload_n d_Mod_at_67 rfl ?_
      refine j_iload_n d_Mod_at_68 rfl ?_
      refine v_call1 d_Mod_at_69 c_Mod_324 rfl ⟨_, rfl, rfl⟩ (Nat.le_of_ble_eq_true rfl) (t_Mod_signAt (by omega) (by omega) ?_)
      refine s_call1 d_Mod_at_72 c_Mod_22 (Nat.le_of_ble_eq_true rfl) (t_Mod_isName (by first | omega | exact hw _ | exact hx _ _ | assumption) (fun h72 => ?_) (fun h72 => ?_))
      · refine z_if_ne (t := 92) d_Mod_at_75 (by decide) (by first | omega | exact hw _ | exact hx _ _ | assumption) (fun _ => ?_) (fun h => absurd h (by decide))
        refine z_iconst d_Mod_at_92 ?_
        first | exact z_iret rfl d_Mod_at_93 (by rw [if_neg (by omega), if_neg (by omega), if_neg (by omega), if_pos (by omega), if_pos (by omega)]) (hQ (by omega)) | exact z_iret rfl d_Mod_at_93 (by rw [if_neg (by omega), if_neg (by omega), if_neg (by omega), if_pos (by omega), if_neg (by omega)]) (hQ (by omega))
      · refine z_if_ne (t := 92) d_Mod_at_75 (by decide) (by first | omega | exact hw _ | exact hx _ _ | assumption) (fun h => absurd h (by decide)) (fun _ => ?_)
        refine j_aload_n d_Mod_at_78 rfl ?_
        refine mg_pairOf f_Mod_70 d_Mod_at_79 ?_
        refine j_iload_n d_Mod_at_82 rfl ?_
        refine ml_pairOf d_Mod_at_83 (by omega) (by omega) ?_
        refine z_iconst d_Mod_at_84 ?_
        refine z_icmp_ne (t := 92) d_Mod_at_85 (by decide) (by first | omega | exact hw _ | exact hx _ _ | assumption) (by first | omega | exact hw _ | exact hx _ _ | assumption) (fun h85 => ?_) (fun h85 => ?_)
        · refine z_iconst d_Mod_at_92 ?_
          first | exact z_iret rfl d_Mod_at_93 (by rw [if_neg (by omega), if_neg (by omega), if_neg (by omega), if_pos (by omega), if_pos (by omega)]) (hQ (by omega)) | exact z_iret rfl d_Mod_at_93 (by rw [if_neg (by omega), if_neg (by omega), if_neg (by omega), if_pos (by omega), if_neg (by omega)]) (hQ (by omega))
        · refine z_iconst d_Mod_at_88 ?_
          refine j_goto (t := 93) d_Mod_at_89 (by decide) ?_
          first | exact z_iret rfl d_Mod_at_93 (by rw [if_neg (by omega), if_neg (by omega), if_neg (by omega), if_pos (by omega), if_pos (by omega)]) (hQ (by omega)) | exact z_iret rfl d_Mod_at_93 (by rw [if_neg (by omega), if_neg (by omega), if_neg (by omega), if_pos (by omega), if_neg (by omega)]) (hQ (by omega))
    refine z_tabOut (t := 94) d_Mod_at_16 (by first | omega | exact hw _ | exact hx _ _ | assumption) (by omega) (by decide) ?_
    refine z_iconst d_Mod_at_94 ?_
    exact z_iret rfl d_Mod_at_95 (by rw [if_neg (by omega), if_neg (by omega), if_neg (by omega), if_neg (by omega)]) (hQ (by omega))
  · refine z_if_ne (t := 10) d_Mod_at_5 (by decide) (by first | omega | exact hw _ | exact hx _ _ | assumption) (fun h => absurd h (by decide)) (fun _ => ?_)
    refine z_iconst d_Mod_at_8 ?_
    exact z_iret rfl d_Mod_at_9 rfl (hf (by omega))
