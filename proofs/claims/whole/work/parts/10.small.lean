theorem t_Mod_lies {g : Bool} {d : Nat} {Q : List xM → Option Value → Prop} {mem : List xM} {v lo hi : Int} (r1 : R32 v) (r2 : R32 lo) (r3 : R32 hi) (ht : lo ≤ v ∧ v ≤ hi → Q mem (some (.int (ii 1)))) (hf : ¬ (lo ≤ v ∧ v ≤ hi) → Q mem (some (.int (ii 0)))) : CT g m_Mod_lies d [.int (ii v), .int (ii lo), .int (ii hi)] mem 0 0 Q := by
  refine CT.of (by decide) (Nat.le_of_ble_eq_true rfl) ?_
  show SJ _ _ _ _ [some (.int (ii v)), some (.int (ii lo)), some (.int (ii hi))] [] _ _ _ _
  refine j_iload_n d_Mod_lies_0 rfl ?_
  refine j_iload_n d_Mod_lies_1 rfl ?_
  refine z_icmp_lt (t := 14) d_Mod_lies_2 (by decide) (by first | omega | exact hw _ | exact hx _ _ | assumption) (by first | omega | exact hw _ | exact hx _ _ | assumption) (fun h2 => ?_) (fun h2 => ?_)
  · refine z_iconst d_Mod_lies_14 ?_
    exact z_zreturn rfl (Or.inl rfl) d_Mod_lies_15 (hf (by first | omega | simp_all))
  · refine j_iload_n d_Mod_lies_5 rfl ?_
    refine j_iload_n d_Mod_lies_6 rfl ?_
    refine z_icmp_gt (t := 14) d_Mod_lies_7 (by decide) (by first | omega | exact hw _ | exact hx _ _ | assumption) (by first | omega | exact hw _ | exact hx _ _ | assumption) (fun h7 => ?_) (fun h7 => ?_)
    · refine z_iconst d_Mod_lies_14 ?_
      exact z_zreturn rfl (Or.inl rfl) d_Mod_lies_15 (hf (by first | omega | simp_all))
    · refine z_iconst d_Mod_lies_10 ?_
      refine j_goto (t := 15) d_Mod_lies_11 (by decide) ?_
      exact z_zreturn rfl (Or.inr rfl) d_Mod_lies_15 (ht (by first | omega | simp_all))
theorem t_Mod_lesser {g : Bool} {d : Nat} {Q : List xM → Option Value → Prop} {mem : List xM} {a b : Int} (r1 : R32 a) (r2 : R32 b) (hQ : Q mem (some (.int (ii (min a b))))) : CT g m_Mod_lesser d [.int (ii a), .int (ii b)] mem 0 0 Q := by
  refine CT.of (by decide) (Nat.le_of_ble_eq_true rfl) ?_
  show SJ _ _ _ _ [some (.int (ii a)), some (.int (ii b))] [] _ _ _ _
  refine j_iload_n d_Mod_lesser_0 rfl ?_
  refine j_iload_n d_Mod_lesser_1 rfl ?_
  refine z_icmp_ge (t := 9) d_Mod_lesser_2 (by decide) (by first | omega | exact hw _ | exact hx _ _ | assumption) (by first | omega | exact hw _ | exact hx _ _ | assumption) (fun h2 => ?_) (fun h2 => ?_)
  · refine j_iload_n d_Mod_lesser_9 rfl ?_
    exact z_iret rfl d_Mod_lesser_10 (by first | rfl | omega | simp_all) hQ
  · refine j_iload_n d_Mod_lesser_5 rfl ?_
    refine j_goto (t := 10) d_Mod_lesser_6 (by decide) ?_
    exact z_iret rfl d_Mod_lesser_10 (by first | rfl | omega | simp_all) hQ
theorem t_Mod_greater {g : Bool} {d : Nat} {Q : List xM → Option Value → Prop} {mem : List xM} {a b : Int} (r1 : R32 a) (r2 : R32 b) (hQ : Q mem (some (.int (ii (max a b))))) : CT g m_Mod_greater d [.int (ii a), .int (ii b)] mem 0 0 Q := by
  refine CT.of (by decide) (Nat.le_of_ble_eq_true rfl) ?_
  show SJ _ _ _ _ [some (.int (ii a)), some (.int (ii b))] [] _ _ _ _
  refine j_iload_n d_Mod_greater_0 rfl ?_
  refine j_iload_n d_Mod_greater_1 rfl ?_
  refine z_icmp_le (t := 9) d_Mod_greater_2 (by decide) (by first | omega | exact hw _ | exact hx _ _ | assumption) (by first | omega | exact hw _ | exact hx _ _ | assumption) (fun h2 => ?_) (fun h2 => ?_)
  · refine j_iload_n d_Mod_greater_9 rfl ?_
    exact z_iret rfl d_Mod_greater_10 (by first | rfl | omega | simp_all) hQ
  · refine j_iload_n d_Mod_greater_5 rfl ?_
    refine j_goto (t := 10) d_Mod_greater_6 (by decide) ?_
    exact z_iret rfl d_Mod_greater_10 (by first | rfl | omega | simp_all) hQ
theorem t_Mod_refuses {g : Bool} {d : Nat} {Q : List xM → Option Value → Prop} {i0 i6 i8 i9 i10 i13 i14 i18 i19 i20 i21 i22 i23 i24 i25 i27 i28 i33 i42 i43 i44 i45 i46 i47 i48 i51 i52 : Int} {x1 x2 x3 x4 x5 x7 x11 x12 x15 x16 x17 x26 x29 x30 x31 x32 x34 x35 x36 x37 x38 x39 x40 x41 x49 x50 : Int → Int} {k : Int} (h1 : -6 ≤ k) (h2 : k ≤ -1) (hQ : Q (MM k i6 i8 i9 i10 i13 i14 i18 i19 i20 i21 i22 i23 i24 i25 i27 i28 i33 i42 i43 i44 i45 i46 i47 i48 i51 i52 (up x1 (0 - k) (x1 (0 - k) + 1)) x2 x3 x4 x5 x7 x11 x12 x15 x16 x17 x26 x29 x30 x31 x32 x34 x35 x36 x37 x38 x39 x40 x41 x49 x50) (some (.int (ii k)))) : CT g m_Mod_refuses d [.ref 0, .int (ii k)] (MM i0 i6 i8 i9 i10 i13 i14 i18 i19 i20 i21 i22 i23 i24 i25 i27 i28 i33 i42 i43 i44 i45 i46 i47 i48 i51 i52 x1 x2 x3 x4 x5 x7 x11 x12 x15 x16 x17 x26 x29 x30 x31 x32 x34 x35 x36 x37 x38 x39 x40 x41 x49 x50) 0 0 Q := by
  refine CT.of (by decide) (Nat.le_of_ble_eq_true rfl) ?_
  show SJ _ _ _ _ [some (.ref 0), some (.int (ii k))] [] _ _ _ _
  refine j_aload_n d_Mod_refuses_0 rfl ?_
  refine j_iload_n d_Mod_refuses_1 rfl ?_
  refine mp_status f_Mod_3 d_Mod_refuses_2 ?_
  refine j_aload_n d_Mod_refuses_5 rfl ?_
  refine mg_refused f_Mod_7 d_Mod_refuses_6 ?_
  refine j_iload_n d_Mod_refuses_9 rfl ?_
  refine z_ineg d_Mod_refuses_10 ?_
  refine j_dup2 d_Mod_refuses_11 rfl rfl ?_
  refine ml_refused d_Mod_refuses_12 (by omega) (by omega) ?_
  refine z_iconst d_Mod_refuses_13 ?_
  refine z_iadd d_Mod_refuses_14 ?_
  refine ms_refused d_Mod_refuses_15 (by omega) (by omega) ?_
  refine j_iload_n d_Mod_refuses_16 rfl ?_
  exact z_iret rfl d_Mod_refuses_17 (by first | rfl | omega | simp_all) hQ
theorem t_Mod_good {g : Bool} {d : Nat} {Q : List xM → Option Value → Prop} {i0 i6 i8 i9 i10 i13 i14 i18 i19 i20 i21 i22 i23 i24 i25 i27 i28 i33 i42 i43 i44 i45 i46 i47 i48 i51 i52 : Int} {x1 x2 x3 x4 x5 x7 x11 x12 x15 x16 x17 x26 x29 x30 x31 x32 x34 x35 x36 x37 x38 x39 x40 x41 x49 x50 : Int → Int} {v : Int} (hQ : Q (MM 0 i6 i8 i9 i10 i13 i14 i18 i19 i20 i21 i22 i23 i24 i25 i27 i28 i33 i42 i43 i44 i45 i46 i47 i48 i51 i52 x1 x2 x3 x4 x5 x7 x11 x12 x15 x16 x17 x26 x29 x30 x31 x32 x34 x35 x36 x37 x38 x39 x40 x41 x49 x50) (some (.int (ii v)))) : CT g m_Mod_good d [.ref 0, .int (ii v)] (MM i0 i6 i8 i9 i10 i13 i14 i18 i19 i20 i21 i22 i23 i24 i25 i27 i28 i33 i42 i43 i44 i45 i46 i47 i48 i51 i52 x1 x2 x3 x4 x5 x7 x11 x12 x15 x16 x17 x26 x29 x30 x31 x32 x34 x35 x36 x37 x38 x39 x40 x41 x49 x50) 0 0 Q := by
  refine CT.of (by decide) (Nat.le_of_ble_eq_true rfl) ?_
  show SJ _ _ _ _ [some (.ref 0), some (.int (ii v))] [] _ _ _ _
  refine j_aload_n d_Mod_good_0 rfl ?_
  refine z_iconst d_Mod_good_1 ?_
  refine mp_status f_Mod_3 d_Mod_good_2 ?_
  refine j_iload_n d_Mod_good_5 rfl ?_
  exact z_iret rfl d_Mod_good_6 (by first | rfl | omega | simp_all) hQ
theorem t_Mod_settled {g : Bool} {d : Nat} {Q : List xM → Option Value → Prop} {i0 i6 i8 i9 i10 i13 i14 i18 i19 i20 i21 i22 i23 i24 i25 i27 i28 i33 i42 i43 i44 i45 i46 i47 i48 i51 i52 : Int} {x1 x2 x3 x4 x5 x7 x11 x12 x15 x16 x17 x26 x29 x30 x31 x32 x34 x35 x36 x37 x38 x39 x40 x41 x49 x50 : Int → Int} {v : Int} (hQ : Q (MM 0 i6 i8 i9 i10 i13 i14 i18 i19 i20 i21 i22 i23 i24 i25 i27 i28 0 i42 i43 i44 i45 i46 i47 i48 i51 i52 x1 x2 x3 x4 x5 x7 x11 x12 x15 x16 x17 x26 x29 x30 x31 x32 x34 x35 x36 x37 x38 x39 x40 x41 x49 x50) (some (.int (ii v)))) : CT g m_Mod_settled (d + 1) [.ref 0, .int (ii v)] (MM i0 i6 i8 i9 i10 i13 i14 i18 i19 i20 i21 i22 i23 i24 i25 i27 i28 i33 i42 i43 i44 i45 i46 i47 i48 i51 i52 x1 x2 x3 x4 x5 x7 x11 x12 x15 x16 x17 x26 x29 x30 x31 x32 x34 x35 x36 x37 x38 x39 x40 x41 x49 x50) 0 0 Q := by
  refine CT.of (by decide) (Nat.le_of_ble_eq_true rfl) ?_
  show SJ _ _ _ _ [some (.ref 0), some (.int (ii v))] [] _ _ _ _
  refine j_aload_n d_Mod_settled_0 rfl ?_
  refine z_iconst d_Mod_settled_1 ?_
  refine mp_undoMany f_Mod_11 d_Mod_settled_2 ?_
  refine j_aload_n d_Mod_settled_5 rfl ?_
  refine j_iload_n d_Mod_settled_6 rfl ?_
  refine v_call1 d_Mod_settled_7 c_Mod_14 rfl ⟨_, rfl, rfl⟩ (Nat.le_of_ble_eq_true rfl) (t_Mod_good  ?_)
  exact z_iret rfl d_Mod_settled_10 (by first | rfl | omega | simp_all) hQ
theorem t_Mod_isSign {g : Bool} {d : Nat} {Q : List xM → Option Value → Prop} {mem : List xM} {s : Int} (r1 : R32 s) (ht : 0 ≤ s ∧ s ≤ 11 → Q mem (some (.int (ii 1)))) (hf : ¬ (0 ≤ s ∧ s ≤ 11) → Q mem (some (.int (ii 0)))) : CT g m_Mod_isSign (d + 1) [.int (ii s)] mem 0 0 Q := by
  refine CT.of (by decide) (Nat.le_of_ble_eq_true rfl) ?_
  show SJ _ _ _ _ [some (.int (ii s))] [] _ _ _ _
  refine j_iload_n d_Mod_isSign_0 rfl ?_
  refine z_iconst d_Mod_isSign_1 ?_
  refine z_bipush d_Mod_isSign_2 (by decide) ?_
  refine s_call3 d_Mod_isSign_4 c_Mod_18 (Nat.le_of_ble_eq_true rfl) (t_Mod_lies (by first | omega | exact hw _ | exact hx _ _ | assumption) (by first | omega | exact hw _ | exact hx _ _ | assumption) (by first | omega | exact hw _ | exact hx _ _ | assumption) (fun h4 => ?_) (fun h4 => ?_))
  · exact z_zreturn rfl (Or.inr rfl) d_Mod_isSign_7 (ht (by first | omega | simp_all))
  · exact z_zreturn rfl (Or.inl rfl) d_Mod_isSign_7 (hf (by first | omega | simp_all))
theorem t_Mod_opens0 {g : Bool} {d : Nat} {Q : List xM → Option Value → Prop} {mem : List xM} {s : Int} (r1 : R32 s) (ht : s < 3 → Q mem (some (.int (ii 1)))) (hf : ¬ (s < 3) → Q mem (some (.int (ii 0)))) : CT g m_Mod_opens0 d [.int (ii s)] mem 0 0 Q := by
  refine CT.of (by decide) (Nat.le_of_ble_eq_true rfl) ?_
  show SJ _ _ _ _ [some (.int (ii s))] [] _ _ _ _
  refine j_iload_n d_Mod_opens0_0 rfl ?_
  refine z_iconst d_Mod_opens0_1 ?_
  refine z_icmp_ge (t := 9) d_Mod_opens0_2 (by decide) (by first | omega | exact hw _ | exact hx _ _ | assumption) (by first | omega | exact hw _ | exact hx _ _ | assumption) (fun h2 => ?_) (fun h2 => ?_)
  · refine z_iconst d_Mod_opens0_9 ?_
    exact z_zreturn rfl (Or.inl rfl) d_Mod_opens0_10 (hf (by first | omega | simp_all))
  · refine z_iconst d_Mod_opens0_5 ?_
    refine j_goto (t := 10) d_Mod_opens0_6 (by decide) ?_
    exact z_zreturn rfl (Or.inr rfl) d_Mod_opens0_10 (ht (by first | omega | simp_all))
theorem t_Mod_closes0 {g : Bool} {d : Nat} {Q : List xM → Option Value → Prop} {mem : List xM} {s : Int} (r1 : R32 s) (ht : 3 ≤ s ∧ s ≤ 5 → Q mem (some (.int (ii 1)))) (hf : ¬ (3 ≤ s ∧ s ≤ 5) → Q mem (some (.int (ii 0)))) : CT g m_Mod_closes0 (d + 1) [.int (ii s)] mem 0 0 Q := by
  refine CT.of (by decide) (Nat.le_of_ble_eq_true rfl) ?_
  show SJ _ _ _ _ [some (.int (ii s))] [] _ _ _ _
  refine j_iload_n d_Mod_closes0_0 rfl ?_
  refine z_iconst d_Mod_closes0_1 ?_
  refine z_iconst d_Mod_closes0_2 ?_
  refine s_call3 d_Mod_closes0_3 c_Mod_18 (Nat.le_of_ble_eq_true rfl) (t_Mod_lies (by first | omega | exact hw _ | exact hx _ _ | assumption) (by first | omega | exact hw _ | exact hx _ _ | assumption) (by first | omega | exact hw _ | exact hx _ _ | assumption) (fun h3 => ?_) (fun h3 => ?_))
  · exact z_zreturn rfl (Or.inr rfl) d_Mod_closes0_6 (ht (by first | omega | simp_all))
  · exact z_zreturn rfl (Or.inl rfl) d_Mod_closes0_6 (hf (by first | omega | simp_all))
theorem t_Mod_isName {g : Bool} {d : Nat} {Q : List xM → Option Value → Prop} {mem : List xM} {s : Int} (r1 : R32 s) (ht : 6 ≤ s → Q mem (some (.int (ii 1)))) (hf : ¬ (6 ≤ s) → Q mem (some (.int (ii 0)))) : CT g m_Mod_isName d [.int (ii s)] mem 0 0 Q := by
  refine CT.of (by decide) (Nat.le_of_ble_eq_true rfl) ?_
  show SJ _ _ _ _ [some (.int (ii s))] [] _ _ _ _
  refine j_iload_n d_Mod_isName_0 rfl ?_
  refine z_bipush d_Mod_isName_1 (by decide) ?_
  refine z_icmp_lt (t := 10) d_Mod_isName_3 (by decide) (by first | omega | exact hw _ | exact hx _ _ | assumption) (by first | omega | exact hw _ | exact hx _ _ | assumption) (fun h3 => ?_) (fun h3 => ?_)
  · refine z_iconst d_Mod_isName_10 ?_
    exact z_zreturn rfl (Or.inl rfl) d_Mod_isName_11 (hf (by first | omega | simp_all))
  · refine z_iconst d_Mod_isName_6 ?_
    refine j_goto (t := 11) d_Mod_isName_7 (by decide) ?_
    exact z_zreturn rfl (Or.inr rfl) d_Mod_isName_11 (ht (by first | omega | simp_all))
theorem t_Mod_kindOf {g : Bool} {d : Nat} {Q : List xM → Option Value → Prop} {mem : List xM} {s : Int} (r1 : R32 s) (hQ : Q mem (some (.int (ii (kd s))))) : CT g m_Mod_kindOf (d + 1) [.int (ii s)] mem 0 0 Q := by
  refine CT.of (by decide) (Nat.le_of_ble_eq_true rfl) ?_
  show SJ _ _ _ _ [some (.int (ii s))] [] _ _ _ _
  refine j_iload_n d_Mod_kindOf_0 rfl ?_
  refine s_call1 d_Mod_kindOf_1 c_Mod_22 (Nat.le_of_ble_eq_true rfl) (t_Mod_isName (by first | omega | exact hw _ | exact hx _ _ | assumption) (fun h1 => ?_) (fun h1 => ?_))
  · refine z_if_eq (t := 11) d_Mod_kindOf_4 (by decide) (by first | omega | exact hw _ | exact hx _ _ | assumption) (fun h => absurd h (by decide)) (fun _ => ?_)
    refine z_iconst d_Mod_kindOf_7 ?_
    refine j_goto (t := 14) d_Mod_kindOf_8 (by decide) ?_
    exact z_iret rfl d_Mod_kindOf_14 (by unfold kd; first | rw [if_pos (by omega)] | rw [if_neg (by omega)]) hQ
  · refine z_if_eq (t := 11) d_Mod_kindOf_4 (by decide) (by first | omega | exact hw _ | exact hx _ _ | assumption) (fun _ => ?_) (fun h => absurd h (by decide))
    refine j_iload_n d_Mod_kindOf_11 rfl ?_
    refine z_iconst d_Mod_kindOf_12 ?_
    refine z_irem d_Mod_kindOf_13 (by first | omega | exact hw _ | exact hx _ _ | assumption) (by first | omega | exact hw _ | exact hx _ _ | assumption) (by decide) ?_
    exact z_iret rfl d_Mod_kindOf_14 (by unfold kd; first | rw [if_pos (by omega)] | rw [if_neg (by omega)]) hQ
theorem t_Mod_length {g : Bool} {d : Nat} {Q : List xM → Option Value → Prop} {i0 i6 i8 i9 i10 i13 i14 i18 i19 i20 i21 i22 i23 i24 i25 i27 i28 i33 i42 i43 i44 i45 i46 i47 i48 i51 i52 : Int} {x1 x2 x3 x4 x5 x7 x11 x12 x15 x16 x17 x26 x29 x30 x31 x32 x34 x35 x36 x37 x38 x39 x40 x41 x49 x50 : Int → Int} (hQ : Q (MM i0 i6 i8 i9 i10 i13 i14 i18 i19 i20 i21 i22 i23 i24 i25 i27 i28 i33 i42 i43 i44 i45 i46 i47 i48 i51 i52 x1 x2 x3 x4 x5 x7 x11 x12 x15 x16 x17 x26 x29 x30 x31 x32 x34 x35 x36 x37 x38 x39 x40 x41 x49 x50) (some (.int (ii ((x2 0)))))) : CT g m_Mod_length d [.ref 0] (MM i0 i6 i8 i9 i10 i13 i14 i18 i19 i20 i21 i22 i23 i24 i25 i27 i28 i33 i42 i43 i44 i45 i46 i47 i48 i51 i52 x1 x2 x3 x4 x5 x7 x11 x12 x15 x16 x17 x26 x29 x30 x31 x32 x34 x35 x36 x37 x38 x39 x40 x41 x49 x50) 0 0 Q := by
  refine CT.of (by decide) (Nat.le_of_ble_eq_true rfl) ?_
  show SJ _ _ _ _ [some (.ref 0)] [] _ _ _ _
  refine j_aload_n d_Mod_length_0 rfl ?_
  refine mg_kept f_Mod_32 d_Mod_length_1 ?_
  refine z_iconst d_Mod_length_4 ?_
  refine ml_kept d_Mod_length_5 (by omega) (by omega) ?_
  exact z_iret rfl d_Mod_length_6 (by first | rfl | omega | simp_all) hQ
theorem t_Mod_signAt {g : Bool} {d : Nat} {Q : List xM → Option Value → Prop} {i0 i6 i8 i9 i10 i13 i14 i18 i19 i20 i21 i22 i23 i24 i25 i27 i28 i33 i42 i43 i44 i45 i46 i47 i48 i51 i52 : Int} {x1 x2 x3 x4 x5 x7 x11 x12 x15 x16 x17 x26 x29 x30 x31 x32 x34 x35 x36 x37 x38 x39 x40 x41 x49 x50 : Int → Int} {p : Int} (h1 : 0 ≤ p) (h2 : p < 20) (hQ : Q (MM i0 i6 i8 i9 i10 i13 i14 i18 i19 i20 i21 i22 i23 i24 i25 i27 i28 i33 i42 i43 i44 i45 i46 i47 i48 i51 i52 x1 x2 x3 x4 x5 x7 x11 x12 x15 x16 x17 x26 x29 x30 x31 x32 x34 x35 x36 x37 x38 x39 x40 x41 x49 x50) (some (.int (ii ((x2 (1 + p))))))) : CT g m_Mod_signAt d [.ref 0, .int (ii p)] (MM i0 i6 i8 i9 i10 i13 i14 i18 i19 i20 i21 i22 i23 i24 i25 i27 i28 i33 i42 i43 i44 i45 i46 i47 i48 i51 i52 x1 x2 x3 x4 x5 x7 x11 x12 x15 x16 x17 x26 x29 x30 x31 x32 x34 x35 x36 x37 x38 x39 x40 x41 x49 x50) 0 0 Q := by
  refine CT.of (by decide) (Nat.le_of_ble_eq_true rfl) ?_
  show SJ _ _ _ _ [some (.ref 0), some (.int (ii p))] [] _ _ _ _
  refine j_aload_n d_Mod_signAt_0 rfl ?_
  refine mg_kept f_Mod_32 d_Mod_signAt_1 ?_
  refine z_iconst d_Mod_signAt_4 ?_
  refine j_iload_n d_Mod_signAt_5 rfl ?_
  refine z_iadd d_Mod_signAt_6 ?_
  refine ml_kept d_Mod_signAt_7 (by omega) (by omega) ?_
  exact z_iret rfl d_Mod_signAt_8 (by first | rfl | omega | simp_all) hQ
theorem t_Mod_isPlace {g : Bool} {d : Nat} {Q : List xM → Option Value → Prop} {i0 i6 i8 i9 i10 i13 i14 i18 i19 i20 i21 i22 i23 i24 i25 i27 i28 i33 i42 i43 i44 i45 i46 i47 i48 i51 i52 : Int} {x1 x2 x3 x4 x5 x7 x11 x12 x15 x16 x17 x26 x29 x30 x31 x32 x34 x35 x36 x37 x38 x39 x40 x41 x49 x50 : Int → Int} {p : Int} (r1 : R32 p) (hn0 : 0 ≤ x2 0) (hn1 : x2 0 ≤ 20) (ht : 0 ≤ p ∧ p < x2 0 → Q (MM i0 i6 i8 i9 i10 i13 i14 i18 i19 i20 i21 i22 i23 i24 i25 i27 i28 i33 i42 i43 i44 i45 i46 i47 i48 i51 i52 x1 x2 x3 x4 x5 x7 x11 x12 x15 x16 x17 x26 x29 x30 x31 x32 x34 x35 x36 x37 x38 x39 x40 x41 x49 x50) (some (.int (ii 1)))) (hf : ¬ (0 ≤ p ∧ p < x2 0) → Q (MM i0 i6 i8 i9 i10 i13 i14 i18 i19 i20 i21 i22 i23 i24 i25 i27 i28 i33 i42 i43 i44 i45 i46 i47 i48 i51 i52 x1 x2 x3 x4 x5 x7 x11 x12 x15 x16 x17 x26 x29 x30 x31 x32 x34 x35 x36 x37 x38 x39 x40 x41 x49 x50) (some (.int (ii 0)))) : CT g m_Mod_isPlace (d + 1) [.ref 0, .int (ii p)] (MM i0 i6 i8 i9 i10 i13 i14 i18 i19 i20 i21 i22 i23 i24 i25 i27 i28 i33 i42 i43 i44 i45 i46 i47 i48 i51 i52 x1 x2 x3 x4 x5 x7 x11 x12 x15 x16 x17 x26 x29 x30 x31 x32 x34 x35 x36 x37 x38 x39 x40 x41 x49 x50) 0 0 Q := by
  refine CT.of (by decide) (Nat.le_of_ble_eq_true rfl) ?_
  show SJ _ _ _ _ [some (.ref 0), some (.int (ii p))] [] _ _ _ _
  refine j_iload_n d_Mod_isPlace_0 rfl ?_
  refine z_iconst d_Mod_isPlace_1 ?_
  refine j_aload_n d_Mod_isPlace_2 rfl ?_
  refine v_call0 d_Mod_isPlace_3 c_Mod_125 rfl ⟨_, rfl, rfl⟩ (Nat.le_of_ble_eq_true rfl) (t_Mod_length  ?_)
  refine z_iconst d_Mod_isPlace_6 ?_
  refine z_isub d_Mod_isPlace_7 ?_
  refine s_call3 d_Mod_isPlace_8 c_Mod_18 (Nat.le_of_ble_eq_true rfl) (t_Mod_lies (by first | omega | exact hw _ | exact hx _ _ | assumption) (by first | omega | exact hw _ | exact hx _ _ | assumption) (by first | omega | exact hw _ | exact hx _ _ | assumption) (fun h8 => ?_) (fun h8 => ?_))
  · exact z_zreturn rfl (Or.inr rfl) d_Mod_isPlace_11 (ht (by first | omega | simp_all))
  · exact z_zreturn rfl (Or.inl rfl) d_Mod_isPlace_11 (hf (by first | omega | simp_all))
