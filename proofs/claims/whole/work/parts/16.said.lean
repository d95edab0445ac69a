theorem t_Mod_isSaid {g : Bool} {d : Nat} {Q : List xM → Option Value → Prop} {i0 i6 i8 i9 i10 i13 i14 i18 i19 i20 i21 i22 i23 i24 i25 i27 i28 i33 i42 i43 i44 i45 i46 i47 i48 i51 i52 : Int} {x1 x2 x3 x4 x5 x7 x11 x12 x15 x16 x17 x26 x29 x30 x31 x32 x34 x35 x36 x37 x38 x39 x40 x41 x49 x50 : Int → Int} {p people : Int} (p0 : 0 ≤ p) (p1 : p < 20) (s1 : 0 ≤ x2 (1 + p)) (s2 : x2 (1 + p) ≤ 11) (hm : ∀ j, 0 ≤ j → j < p → R32 (x29 j)) (ht : 6 ≤ x2 (1 + p) ∧ bq people (x2 (1 + p)) ∧ dpc x29 p p.toNat = 0 → Q (MM i0 i6 i8 i9 i10 i13 i14 i18 i19 i20 i21 i22 i23 i24 i25 i27 i28 i33 i42 i43 i44 i45 i46 i47 i48 i51 i52 x1 x2 x3 x4 x5 x7 x11 x12 x15 x16 x17 x26 x29 x30 x31 x32 x34 x35 x36 x37 x38 x39 x40 x41 x49 x50) (some (.int (ii 1)))) (hf : ¬ (6 ≤ x2 (1 + p) ∧ bq people (x2 (1 + p)) ∧ dpc x29 p p.toNat = 0) → Q (MM i0 i6 i8 i9 i10 i13 i14 i18 i19 i20 i21 i22 i23 i24 i25 i27 i28 i33 i42 i43 i44 i45 i46 i47 i48 i51 i52 x1 x2 x3 x4 x5 x7 x11 x12 x15 x16 x17 x26 x29 x30 x31 x32 x34 x35 x36 x37 x38 x39 x40 x41 x49 x50) (some (.int (ii 0)))) : CT g m_Mod_isSaid (d + 1) [.ref 0, .int (ii p), .int (ii people)] (MM i0 i6 i8 i9 i10 i13 i14 i18 i19 i20 i21 i22 i23 i24 i25 i27 i28 i33 i42 i43 i44 i45 i46 i47 i48 i51 i52 x1 x2 x3 x4 x5 x7 x11 x12 x15 x16 x17 x26 x29 x30 x31 x32 x34 x35 x36 x37 x38 x39 x40 x41 x49 x50) 0 0 Q := by
  refine CT.of (by decide) (Nat.le_of_ble_eq_true rfl) ?_
  show SJ _ _ _ _ [some (.ref 0), some (.int (ii p)), some (.int (ii people))] [] _ _ _ _
  refine j_aload_n d_Mod_isSaid_0 rfl ?_
  refine j_iload_n d_Mod_isSaid_1 rfl ?_
  refine v_call1 d_Mod_isSaid_2 c_Mod_324 rfl ⟨_, rfl, rfl⟩ (Nat.le_of_ble_eq_true rfl) (t_Mod_signAt (by omega) (by omega) ?_)
  refine s_call1 d_Mod_isSaid_5 c_Mod_22 (Nat.le_of_ble_eq_true rfl) (t_Mod_isName (by first | omega | exact hw _ | exact hx _ _ | assumption) (fun h5 => ?_) (fun h5 => ?_))
  · refine z_if_eq (t := 39) d_Mod_isSaid_8 (by decide) (by first | omega | exact hw _ | exact hx _ _ | assumption) (fun h => absurd h (by decide)) (fun _ => ?_)
    refine j_iload_n d_Mod_isSaid_11 rfl ?_
    refine j_aload_n d_Mod_isSaid_12 rfl ?_
    refine j_iload_n d_Mod_isSaid_13 rfl ?_
    refine v_call1 d_Mod_isSaid_14 c_Mod_324 rfl ⟨_, rfl, rfl⟩ (Nat.le_of_ble_eq_true rfl) (t_Mod_signAt (by omega) (by omega) ?_)
    refine z_bipush d_Mod_isSaid_17 (by decide) ?_
    refine z_isub d_Mod_isSaid_19 ?_
    refine j_ishr d_Mod_isSaid_20 ?_
    refine z_iconst d_Mod_isSaid_21 ?_
    refine j_iand d_Mod_isSaid_22 ?_
    refine z_iconst d_Mod_isSaid_23 ?_
    refine j_icmp_ne (t := 39) d_Mod_isSaid_24 (by decide) (fun h24 => ?_) (fun h24 => ?_)
    · refine z_iconst d_Mod_isSaid_39 ?_
      exact z_zreturn rfl (Or.inl rfl) d_Mod_isSaid_40 (hf (fun q => by first | omega | exact h24 q.2.1))
    · refine j_aload_n d_Mod_isSaid_27 rfl ?_
      refine j_iload_n d_Mod_isSaid_28 rfl ?_
      refine v_call1 d_Mod_isSaid_29 c_Mod_342 rfl ⟨_, rfl, rfl⟩ (Nat.le_of_ble_eq_true rfl) (t_Mod_deepOf (by omega) (by omega) hm ?_)
      have hdr := dpc_R (m := x29) (p := p) p.toNat
      refine z_if_ne (t := 39) d_Mod_isSaid_32 (by decide) (by first | omega | exact hw _ | exact hx _ _ | assumption) (fun h32 => ?_) (fun h32 => ?_)
      · refine z_iconst d_Mod_isSaid_39 ?_
        exact z_zreturn rfl (Or.inl rfl) d_Mod_isSaid_40 (hf (fun q => by first | omega | exact h24 q.2.1))
      · refine z_iconst d_Mod_isSaid_35 ?_
        refine j_goto (t := 40) d_Mod_isSaid_36 (by decide) ?_
        exact z_zreturn rfl (Or.inr rfl) d_Mod_isSaid_40 (ht ⟨by omega, h24, by omega⟩)
  · refine z_if_eq (t := 39) d_Mod_isSaid_8 (by decide) (by first | omega | exact hw _ | exact hx _ _ | assumption) (fun _ => ?_) (fun h => absurd h (by decide))
    refine z_iconst d_Mod_isSaid_39 ?_
    exact z_zreturn rfl (Or.inl rfl) d_Mod_isSaid_40 (hf (fun q => by first | omega | exact h24 q.2.1))
theorem lp_said {g : Bool} {d : Nat} {Q : List xM → Option Value → Prop} {i0 i6 i8 i9 i10 i13 i14 i18 i19 i20 i21 i22 i23 i24 i25 i27 i28 i33 i42 i43 i44 i45 i46 i47 i48 i51 i52 : Int} {x1 x2 x3 x4 x5 x7 x11 x12 x15 x16 x17 x26 x29 x30 x31 x32 x34 x35 x36 x37 x38 x39 x40 x41 x49 x50 : Int → Int} (hn0 : 0 ≤ x2 0) (hn1 : x2 0 ≤ 20) (hs : ∀ j, 0 ≤ j → j < x2 0 → 0 ≤ x2 (1 + j) ∧ x2 (1 + j) ≤ 11) (hm : ∀ j, 0 ≤ j → j < x2 0 → R32 (x29 j)) (hQ : Q (MM i0 i6 i8 i9 i10 i13 i14 i18 i19 i20 i21 i22 i23 i24 i25 i27 i28 i33 i42 i43 i44 i45 i46 i47 i48 i51 i52 x1 x2 x3 x4 x5 x7 x11 x12 x15 x16 x17 x26 x29 x30 x31 x32 x34 x35 x36 x37 x38 x39 x40 x41 x49 x50) (some (.int (sdF x2 x29 (x2 0).toNat)))) : ∀ (nn : Nat) (p : Int), (x2 0 - p).toNat = nn → 0 ≤ p → p ≤ x2 0 → SJ g m_Mod_said (d + 2) 9 [some (.ref 0), some (.int (sdF x2 x29 p.toNat)), some (.int (ii p))] [] (MM i0 i6 i8 i9 i10 i13 i14 i18 i19 i20 i21 i22 i23 i24 i25 i27 i28 i33 i42 i43 i44 i45 i46 i47 i48 i51 i52 x1 x2 x3 x4 x5 x7 x11 x12 x15 x16 x17 x26 x29 x30 x31 x32 x34 x35 x36 x37 x38 x39 x40 x41 x49 x50) 0 0 Q := by
  intro nn
  induction nn using Nat.strongRecOn with
  | ind nn ih =>
  intro p hn a1 a2
  refine j_iload_n d_Mod_said_9 rfl ?_
  refine j_aload_n d_Mod_said_10 rfl ?_
  refine v_call0 d_Mod_said_11 c_Mod_125 rfl ⟨_, rfl, rfl⟩ (Nat.le_of_ble_eq_true rfl) (t_Mod_length  ?_)
  refine z_icmp_ge (t := 50) d_Mod_said_14 (by decide) (by first | omega | exact hw _ | exact hx _ _ | assumption) (by first | omega | exact hw _ | exact hx _ _ | assumption) (fun h14 => ?_) (fun h14 => ?_)
  · have e : p = x2 0 := by omega
    subst e
    refine j_iload_n d_Mod_said_50 rfl ?_
    exact j_ireturn rfl d_Mod_said_51 hQ
  · have hsp := hs p (by omega) (by omega)
    refine j_iload_n d_Mod_said_17 rfl ?_
    refine j_aload_n d_Mod_said_18 rfl ?_
    refine j_iload_n d_Mod_said_19 rfl ?_
    refine z_bipush d_Mod_said_20 (by decide) ?_
    refine v_call2 d_Mod_said_22 c_Mod_345 rfl ⟨_, rfl, rfl⟩ (Nat.le_of_ble_eq_true rfl) (t_Mod_isSaid (by omega) (by omega) (by omega) (by omega) (fun j h1 h2 => hm j h1 (by omega)) (fun h22 => ?_) (fun h22 => ?_))
    · refine z_if_eq (t := 41) d_Mod_said_25 (by decide) (by first | omega | exact hw _ | exact hx _ _ | assumption) (fun h => absurd h (by decide)) (fun _ => ?_)
      refine z_iconst d_Mod_said_28 ?_
      refine j_aload_n d_Mod_said_29 rfl ?_
      refine j_iload_n d_Mod_said_30 rfl ?_
      refine v_call1 d_Mod_said_31 c_Mod_324 rfl ⟨_, rfl, rfl⟩ (Nat.le_of_ble_eq_true rfl) (t_Mod_signAt (by omega) (by omega) ?_)
      refine z_bipush d_Mod_said_34 (by decide) ?_
      refine z_isub d_Mod_said_36 ?_
      refine j_ishl d_Mod_said_37 ?_
      refine j_goto (t := 42) d_Mod_said_38 (by decide) ?_
      refine j_ior d_Mod_said_42 ?_
      first
      | rw [← sdF_p a1 h22]
      | rw [← sdF_n a1 h22]
      refine j_istore_n d_Mod_said_43 (by decide) ?_
      show SJ _ _ _ _ [_, _, _] _ _ _ _ _
      refine z_iinc d_Mod_said_44 rfl (by decide) ?_
      show SJ _ _ _ _ [_, _, _] _ _ _ _ _
      refine j_goto (t := 9) d_Mod_said_47 (by decide) ?_
      exact ih _ (by omega) _ rfl (by omega) (by omega)
    · refine z_if_eq (t := 41) d_Mod_said_25 (by decide) (by first | omega | exact hw _ | exact hx _ _ | assumption) (fun _ => ?_) (fun h => absurd h (by decide))
      refine z_iconst d_Mod_said_41 ?_
      refine j_ior d_Mod_said_42 ?_
      first
      | rw [← sdF_p a1 h22]
      | rw [← sdF_n a1 h22]
      refine j_istore_n d_Mod_said_43 (by decide) ?_
      show SJ _ _ _ _ [_, _, _] _ _ _ _ _
      refine z_iinc d_Mod_said_44 rfl (by decide) ?_
      show SJ _ _ _ _ [_, _, _] _ _ _ _ _
      refine j_goto (t := 9) d_Mod_said_47 (by decide) ?_
      exact ih _ (by omega) _ rfl (by omega) (by omega)
theorem t_Mod_said {g : Bool} {d : Nat} {Q : List xM → Option Value → Prop} {i0 i6 i8 i9 i10 i13 i14 i18 i19 i20 i21 i22 i23 i24 i25 i27 i28 i33 i42 i43 i44 i45 i46 i47 i48 i51 i52 : Int} {x1 x2 x3 x4 x5 x7 x11 x12 x15 x16 x17 x26 x29 x30 x31 x32 x34 x35 x36 x37 x38 x39 x40 x41 x49 x50 : Int → Int} (hn0 : 0 ≤ x2 0) (hn1 : x2 0 ≤ 20) (hs : ∀ j, 0 ≤ j → j < x2 0 → 0 ≤ x2 (1 + j) ∧ x2 (1 + j) ≤ 11) (hQ : Q (MM i0 i6 i8 i9 i10 i13 i14 i18 i19 i20 i21 i22 i23 i24 i25 i27 i28 i33 i42 i43 i44 i45 i46 i47 i48 i51 i52 x1 x2 x3 x4 x5 x7 x11 x12 x15 x16 x17 x26 (prR x2 0 (x2 0) x29 x30).2.2.1 (prR x2 0 (x2 0) x29 x30).2.2.2 x31 x32 x34 x35 x36 x37 x38 x39 x40 x41 x49 x50) (some (.int (sd x2)))) : CT g m_Mod_said (d + 4) [.ref 0] (MM i0 i6 i8 i9 i10 i13 i14 i18 i19 i20 i21 i22 i23 i24 i25 i27 i28 i33 i42 i43 i44 i45 i46 i47 i48 i51 i52 x1 x2 x3 x4 x5 x7 x11 x12 x15 x16 x17 x26 x29 x30 x31 x32 x34 x35 x36 x37 x38 x39 x40 x41 x49 x50) 0 0 Q := by
  refine CT.of (by decide) (Nat.le_of_ble_eq_true rfl) ?_
  show SJ _ _ _ _ [some (.ref 0), none, none] [] _ _ _ _
  refine j_aload_n d_Mod_said_0 rfl ?_
  refine v_call0 d_Mod_said_1 c_Mod_294 rfl ⟨_, rfl, rfl⟩ (Nat.le_of_ble_eq_true rfl) (t_Mod_looseMany hn0 hn1 hs ?_)
  refine j_pop d_Mod_said_4 rfl ?_
  refine z_iconst d_Mod_said_5 ?_
  refine j_istore_n d_Mod_said_6 (by decide) ?_
  show SJ _ _ _ _ [_, _, _] _ _ _ _ _
  refine z_iconst d_Mod_said_7 ?_
  refine j_istore_n d_Mod_said_8 (by decide) ?_
  show SJ _ _ _ _ [_, _, _] _ _ _ _ _
  refine lp_said hn0 hn1 hs (fun j h1 h2 => by have := mt_R (K := x2) hn1 x29 x30 (q := j) h1 h2; omega) ?_ _ 0 rfl (by omega) (by omega)
  rw [sd_eq x29 x30 hn0]
  exact hQ
theorem lp_run2 {g : Bool} {d : Nat} {Q : List xM → Option Value → Prop} {i0 i6 i8 i9 i10 i13 i14 i18 i19 i20 i21 i22 i23 i24 i25 i27 i28 i33 i42 i43 i44 i45 i46 i47 i48 i51 i52 : Int} {x1 x2 x3 x4 x5 x7 x11 x12 x15 x16 x17 x26 x31 x32 x34 x35 x36 x37 x38 x39 x40 x41 x49 x50 : Int → Int} (hn0 : 0 ≤ x2 0) (hn1 : x2 0 ≤ 20) (hs : ∀ j, 0 ≤ j → j < x2 0 → 0 ≤ x2 (1 + j) ∧ x2 (1 + j) ≤ 11) {what a : Int} (w0 : 0 ≤ what) (a0 : 0 ≤ a) (a1 : a < x2 0) {R : Int × Int} (hk : ∀ z29 z30, SJ g m_Mod_run (d + 4) 18 [some (.ref 0), some (.int (ii what)), some (.int (ii R.1)), some (.int (ii R.2)), some (.int (ii (a + 1))), none] [] (MM i0 i6 i8 i9 i10 i13 i14 i18 i19 i20 i21 i22 i23 i24 i25 i27 i28 i33 i42 i43 i44 i45 i46 i47 i48 i51 i52 x1 x2 x3 x4 x5 x7 x11 x12 x15 x16 x17 x26 z29 z30 x31 x32 x34 x35 x36 x37 x38 x39 x40 x41 x49 x50) 0 0 Q) : ∀ (nn : Nat) (b : Int) (most : Int) (fst : Int) (z29 : Int → Int) (z30 : Int → Int), (x2 0 + 1 - b).toNat = nn → a < b → b ≤ x2 0 + 1 → 0 ≤ most → most ≤ 20 → rnI x2 a (x2 0 + 1 - b).toNat b (most, fst) = R → SJ g m_Mod_run (d + 4) 33 [some (.ref 0), some (.int (ii what)), some (.int (ii most)), some (.int (ii fst)), some (.int (ii a)), some (.int (ii b))] [] (MM i0 i6 i8 i9 i10 i13 i14 i18 i19 i20 i21 i22 i23 i24 i25 i27 i28 i33 i42 i43 i44 i45 i46 i47 i48 i51 i52 x1 x2 x3 x4 x5 x7 x11 x12 x15 x16 x17 x26 z29 z30 x31 x32 x34 x35 x36 x37 x38 x39 x40 x41 x49 x50) 0 0 Q := by
  intro nn
  induction nn using Nat.strongRecOn with
  | ind nn ih =>
  intro b most fst z29 z30 hn b0 b1 m0 m1 hR
  refine j_iload d_Mod_run_33 rfl ?_
  refine j_aload_n d_Mod_run_35 rfl ?_
  refine v_call0 d_Mod_run_36 c_Mod_125 rfl ⟨_, rfl, rfl⟩ (Nat.le_of_ble_eq_true rfl) (t_Mod_length  ?_)
  refine z_icmp_gt (t := 80) d_Mod_run_39 (by decide) (by first | omega | exact hw _ | exact hx _ _ | assumption) (by first | omega | exact hw _ | exact hx _ _ | assumption) (fun h39 => ?_) (fun h39 => ?_)
  · rw [show (x2 0 + 1 - b).toNat = 0 by omega] at hR
    simp only [rnI] at hR
    subst hR
    refine z_iinc d_Mod_run_80 rfl (by decide) ?_
    show SJ _ _ _ _ [_, _, _, _, _, _] _ _ _ _ _
    refine j_goto (t := 18) d_Mod_run_83 (by decide) ?_
    refine SJ.mask [true, true, true, true, true, false] ?_
    exact hk _ _
  · rw [show (x2 0 + 1 - b).toNat = (x2 0 + 1 - (b + 1)).toNat + 1 by omega] at hR
    simp only [rnI] at hR
    refine j_iload d_Mod_run_42 rfl ?_
    refine j_iload d_Mod_run_44 rfl ?_
    refine z_isub d_Mod_run_46 ?_
    refine j_iload_n d_Mod_run_47 rfl ?_
    refine z_icmp_le (t := 74) d_Mod_run_48 (by decide) (by first | omega | exact hw _ | exact hx _ _ | assumption) (by first | omega | exact hw _ | exact hx _ _ | assumption) (fun h48 => ?_) (fun h48 => ?_)
    · refine z_iinc d_Mod_run_74 rfl (by decide) ?_
      show SJ _ _ _ _ [_, _, _, _, _, _] _ _ _ _ _
      refine j_goto (t := 33) d_Mod_run_77 (by decide) ?_
      exact ih _ (by omega) _ _ _ _ _ rfl (by omega) (by omega) (by omega) (by omega) (by first | (rw [if_pos ⟨by omega, by rw [← lo_eq z29 z30]; exact h56⟩] at hR; exact hR) | (rw [if_neg (fun q => by first | omega | exact h56 (by rw [lo_eq z29 z30]; exact q.2))] at hR; exact hR))
    · refine j_aload_n d_Mod_run_51 rfl ?_
      refine j_iload d_Mod_run_52 rfl ?_
      refine j_iload d_Mod_run_54 rfl ?_
      refine v_call2 d_Mod_run_56 c_Mod_348 rfl ⟨_, rfl, rfl⟩ (Nat.le_of_ble_eq_true rfl) (t_Mod_isWhole (by omega) (by omega) (by omega) (fun j h1 h2 => hs j h1 (by omega)) (by omega) (fun h56 => ?_) (fun h56 => ?_))
      · refine z_if_ne (t := 65) d_Mod_run_59 (by decide) (by first | omega | exact hw _ | exact hx _ _ | assumption) (fun _ => ?_) (fun h => absurd h (by decide))
        refine j_iload d_Mod_run_65 rfl ?_
        refine j_iload d_Mod_run_67 rfl ?_
        refine z_isub d_Mod_run_69 ?_
        refine j_istore_n d_Mod_run_70 (by decide) ?_
        show SJ _ _ _ _ [_, _, _, _, _, _] _ _ _ _ _
        refine j_iload d_Mod_run_71 rfl ?_
        refine j_istore_n d_Mod_run_73 (by decide) ?_
        show SJ _ _ _ _ [_, _, _, _, _, _] _ _ _ _ _
        refine z_iinc d_Mod_run_74 rfl (by decide) ?_
        show SJ _ _ _ _ [_, _, _, _, _, _] _ _ _ _ _
        refine j_goto (t := 33) d_Mod_run_77 (by decide) ?_
        exact ih _ (by omega) _ _ _ _ _ rfl (by omega) (by omega) (by omega) (by omega) (by first | (rw [if_pos ⟨by omega, by rw [← lo_eq z29 z30]; exact h56⟩] at hR; exact hR) | (rw [if_neg (fun q => by first | omega | exact h56 (by rw [lo_eq z29 z30]; exact q.2))] at hR; exact hR))
      · refine z_if_ne (t := 65) d_Mod_run_59 (by decide) (by first | omega | exact hw _ | exact hx _ _ | assumption) (fun h => absurd h (by decide)) (fun _ => ?_)
        refine j_goto (t := 74) d_Mod_run_62 (by decide) ?_
        refine z_iinc d_Mod_run_74 rfl (by decide) ?_
        show SJ _ _ _ _ [_, _, _, _, _, _] _ _ _ _ _
        refine j_goto (t := 33) d_Mod_run_77 (by decide) ?_
        exact ih _ (by omega) _ _ _ _ _ rfl (by omega) (by omega) (by omega) (by omega) (by first | (rw [if_pos ⟨by omega, by rw [← lo_eq z29 z30]; exact h56⟩] at hR; exact hR) | (rw [if_neg (fun q => by first | omega | exact h56 (by rw [lo_eq z29 z30]; exact q.2))] at hR; exact hR))
theorem lp_run {g : Bool} {d : Nat} {Q : List xM → Option Value → Prop} {i0 i6 i8 i9 i10 i13 i14 i18 i19 i20 i21 i22 i23 i24 i25 i27 i28 i33 i42 i43 i44 i45 i46 i47 i48 i51 i52 : Int} {x1 x2 x3 x4 x5 x7 x11 x12 x15 x16 x17 x26 x31 x32 x34 x35 x36 x37 x38 x39 x40 x41 x49 x50 : Int → Int} (hn0 : 0 ≤ x2 0) (hn1 : x2 0 ≤ 20) (hs : ∀ j, 0 ≤ j → j < x2 0 → 0 ≤ x2 (1 + j) ∧ x2 (1 + j) ≤ 11) {what : Int} (w0 : 0 ≤ what) (w1 : what ≤ 1) {R : Int × Int} (hQ : ∀ z29 z30, Q (MM i0 i6 i8 i9 i10 i13 i14 i18 i19 i20 i21 i22 i23 i24 i25 i27 i28 i33 i42 i43 i44 i45 i46 i47 i48 i51 i52 x1 x2 x3 x4 x5 x7 x11 x12 x15 x16 x17 x26 z29 z30 x31 x32 x34 x35 x36 x37 x38 x39 x40 x41 x49 x50) (some (.int (ii (if what = 0 then R.1 else R.2))))) : ∀ (nn : Nat) (a : Int) (most : Int) (fst : Int) (z29 : Int → Int) (z30 : Int → Int), (x2 0 - a).toNat = nn → 0 ≤ a → a ≤ x2 0 → 0 ≤ most → most ≤ 20 → -1 ≤ fst → fst ≤ 20 → rnO x2 (x2 0 - a).toNat a (most, fst) = R → SJ g m_Mod_run (d + 4) 18 [some (.ref 0), some (.int (ii what)), some (.int (ii most)), some (.int (ii fst)), some (.int (ii a)), none] [] (MM i0 i6 i8 i9 i10 i13 i14 i18 i19 i20 i21 i22 i23 i24 i25 i27 i28 i33 i42 i43 i44 i45 i46 i47 i48 i51 i52 x1 x2 x3 x4 x5 x7 x11 x12 x15 x16 x17 x26 z29 z30 x31 x32 x34 x35 x36 x37 x38 x39 x40 x41 x49 x50) 0 0 Q := by
  intro nn
  induction nn using Nat.strongRecOn with
  | ind nn ih =>
  intro a most fst z29 z30 hn a0 a1 m0 m1 f0 f1 hR
  refine j_iload d_Mod_run_18 rfl ?_
  refine j_aload_n d_Mod_run_20 rfl ?_
  refine v_call0 d_Mod_run_21 c_Mod_125 rfl ⟨_, rfl, rfl⟩ (Nat.le_of_ble_eq_true rfl) (t_Mod_length  ?_)
  refine z_icmp_ge (t := 86) d_Mod_run_24 (by decide) (by first | omega | exact hw _ | exact hx _ _ | assumption) (by first | omega | exact hw _ | exact hx _ _ | assumption) (fun h24 => ?_) (fun h24 => ?_)
  · rw [show (x2 0 - a).toNat = 0 by omega] at hR
    simp only [rnO] at hR
    subst hR
    refine j_iload_n d_Mod_run_86 rfl ?_
    refine z_if_ne (t := 94) d_Mod_run_87 (by decide) (by first | omega | exact hw _ | exact hx _ _ | assumption) (fun h87 => ?_) (fun h87 => ?_)
    · refine j_iload_n d_Mod_run_94 rfl ?_
      first | exact z_iret rfl d_Mod_run_95 (by rw [if_pos (by omega)]) (hQ _ _) | exact z_iret rfl d_Mod_run_95 (by rw [if_neg (by omega)]) (hQ _ _)
    · refine j_iload_n d_Mod_run_90 rfl ?_
      refine j_goto (t := 95) d_Mod_run_91 (by decide) ?_
      first | exact z_iret rfl d_Mod_run_95 (by rw [if_pos (by omega)]) (hQ _ _) | exact z_iret rfl d_Mod_run_95 (by rw [if_neg (by omega)]) (hQ _ _)
  · rw [show (x2 0 - a).toNat = (x2 0 - (a + 1)).toNat + 1 by omega] at hR
    simp only [rnO] at hR
    have hrr := rnI_R (K := x2) (a := a) (by omega) (by omega) (x2 0 + 1 - (a + 1)).toNat (a + 1) (most, fst) m0 m1 f0 f1 (by omega)
    refine j_iload d_Mod_run_27 rfl ?_
    refine z_iconst d_Mod_run_29 ?_
    refine z_iadd d_Mod_run_30 ?_
    refine j_istore d_Mod_run_31 (by decide) ?_
    show SJ _ _ _ _ [_, _, _, _, _, _] _ _ _ _ _
    refine lp_run2 hn0 hn1 hs w0 a0 (by omega) (fun y29 y30 => ?_) _ (a + 1) most fst z29 z30 rfl (by omega) (by omega) m0 m1 rfl
    exact ih _ (by omega) _ _ _ _ _ rfl (by omega) (by omega) (by omega) (by omega) (by omega) (by omega) hR
theorem t_Mod_run {g : Bool} {d : Nat} {Q : List xM → Option Value → Prop} {i0 i6 i8 i9 i10 i13 i14 i18 i19 i20 i21 i22 i23 i24 i25 i27 i28 i33 i42 i43 i44 i45 i46 i47 i48 i51 i52 : Int} {x1 x2 x3 x4 x5 x7 x11 x12 x15 x16 x17 x26 x29 x30 x31 x32 x34 x35 x36 x37 x38 x39 x40 x41 x49 x50 : Int → Int} (hn0 : 0 ≤ x2 0) (hn1 : x2 0 ≤ 20) (hs : ∀ j, 0 ≤ j → j < x2 0 → 0 ≤ x2 (1 + j) ∧ x2 (1 + j) ≤ 11) {what : Int} (r1 : R32 what) (hf : ¬ (0 ≤ what ∧ what ≤ 1) → Q (MM i0 i6 i8 i9 i10 i13 i14 i18 i19 i20 i21 i22 i23 i24 i25 i27 i28 i33 i42 i43 i44 i45 i46 i47 i48 i51 i52 x1 x2 x3 x4 x5 x7 x11 x12 x15 x16 x17 x26 x29 x30 x31 x32 x34 x35 x36 x37 x38 x39 x40 x41 x49 x50) (some (.int (ii (-1))))) (hQ : 0 ≤ what ∧ what ≤ 1 → ∀ z29 z30, Q (MM i0 i6 i8 i9 i10 i13 i14 i18 i19 i20 i21 i22 i23 i24 i25 i27 i28 i33 i42 i43 i44 i45 i46 i47 i48 i51 i52 x1 x2 x3 x4 x5 x7 x11 x12 x15 x16 x17 x26 z29 z30 x31 x32 x34 x35 x36 x37 x38 x39 x40 x41 x49 x50) (some (.int (ii (if what = 0 then (rn x2).1 else (rn x2).2))))) : CT g m_Mod_run (d + 4) [.ref 0, .int (ii what)] (MM i0 i6 i8 i9 i10 i13 i14 i18 i19 i20 i21 i22 i23 i24 i25 i27 i28 i33 i42 i43 i44 i45 i46 i47 i48 i51 i52 x1 x2 x3 x4 x5 x7 x11 x12 x15 x16 x17 x26 x29 x30 x31 x32 x34 x35 x36 x37 x38 x39 x40 x41 x49 x50) 0 0 Q := by
  refine CT.of (by decide) (Nat.le_of_ble_eq_true rfl) ?_
  show SJ _ _ _ _ [some (.ref 0), some (.int (ii what)), none, none, none, none] [] _ _ _ _
  refine j_iload_n d_Mod_run_0 rfl ?_
  refine z_iconst d_Mod_run_1 ?_
  refine z_iconst d_Mod_run_2 ?_
  refine s_call3 d_Mod_run_3 c_Mod_18 (Nat.le_of_ble_eq_true rfl) (t_Mod_lies (by first | omega | exact hw _ | exact hx _ _ | assumption) (by first | omega | exact hw _ | exact hx _ _ | assumption) (by first | omega | exact hw _ | exact hx _ _ | assumption) (fun h3 => ?_) (fun h3 => ?_))
  · refine z_if_ne (t := 11) d_Mod_run_6 (by decide) (by first | omega | exact hw _ | exact hx _ _ | assumption) (fun _ => ?_) (fun h => absurd h (by decide))
    refine z_iconst d_Mod_run_11 ?_
    refine j_istore_n d_Mod_run_12 (by decide) ?_
    show SJ _ _ _ _ [_, _, _, _, _, _] _ _ _ _ _
    refine z_iconst d_Mod_run_13 ?_
    refine j_istore_n d_Mod_run_14 (by decide) ?_
    show SJ _ _ _ _ [_, _, _, _, _, _] _ _ _ _ _
    refine z_iconst d_Mod_run_15 ?_
    refine j_istore d_Mod_run_16 (by decide) ?_
    show SJ _ _ _ _ [_, _, _, _, _, _] _ _ _ _ _
    exact lp_run hn0 hn1 hs (by omega) (by omega) (hQ (by omega)) _ 0 0 (-1) x29 x30 rfl (by omega) (by omega) (by omega) (by omega) (by omega) (by omega) rfl
  · refine z_if_ne (t := 11) d_Mod_run_6 (by decide) (by first | omega | exact hw _ | exact hx _ _ | assumption) (fun h => absurd h (by decide)) (fun _ => ?_)
    refine z_iconst d_Mod_run_9 ?_
    exact z_iret rfl d_Mod_run_10 (by first | rfl | omega | simp_all) (hf (by omega))
theorem lp_fits {g : Bool} {d : Nat} {Q : List xM → Option Value → Prop} {i0 i6 i8 i9 i10 i13 i14 i18 i19 i20 i21 i22 i23 i24 i25 i27 i28 i33 i42 i43 i44 i45 i46 i47 i48 i51 i52 : Int} {x1 x2 x3 x4 x5 x7 x11 x12 x15 x16 x17 x26 x31 x32 x34 x35 x36 x37 x38 x39 x40 x41 x49 x50 : Int → Int} (hn0 : 0 ≤ x2 0) (hn1 : x2 0 ≤ 20) (hs : ∀ j, 0 ≤ j → j < x2 0 → 0 ≤ x2 (1 + j) ∧ x2 (1 + j) ≤ 11) {p : Int} (p0 : 0 ≤ p) (p1 : p < x2 0) (hQ : ∀ z29 z30, Q (MM i0 i6 i8 i9 i10 i13 i14 i18 i19 i20 i21 i22 i23 i24 i25 i27 i28 i33 i42 i43 i44 i45 i46 i47 i48 i51 i52 x1 x2 x3 x4 x5 x7 x11 x12 x15 x16 x17 x26 z29 z30 x31 x32 x34 x35 x36 x37 x38 x39 x40 x41 x49 x50) (some (.int (ftF x2 p 6)))) : ∀ (nn : Nat) (s : Int) (v : Int) (z29 : Int → Int) (z30 : Int → Int), (6 - s).toNat = nn → 0 ≤ s → s ≤ 6 → SJ g m_Mod_fits (d + 4) 21 [some (.ref 0), some (.int (ii p)), some (.int (ii (x2 (1 + p)))), some (.int (ftF x2 p s.toNat)), some (.int (ii s))] [] (MM i0 i6 i8 i9 i10 i13 i14 i18 i19 i20 i21 i22 i23 i24 i25 i27 i28 i33 i42 i43 i44 i45 i46 i47 i48 i51 i52 x1 (up x2 (1 + p) v) x3 x4 x5 x7 x11 x12 x15 x16 x17 x26 z29 z30 x31 x32 x34 x35 x36 x37 x38 x39 x40 x41 x49 x50) 0 0 Q := by
  intro nn
  induction nn using Nat.strongRecOn with
  | ind nn ih =>
  intro s v z29 z30 hn s0 s1
  refine j_iload d_Mod_fits_21 rfl ?_
  refine z_bipush d_Mod_fits_23 (by decide) ?_
  refine z_icmp_ge (t := 67) d_Mod_fits_25 (by decide) (by first | omega | exact hw _ | exact hx _ _ | assumption) (by first | omega | exact hw _ | exact hx _ _ | assumption) (fun h25 => ?_) (fun h25 => ?_)
  · have e : s = 6 := by omega
    subst e
    refine j_aload_n d_Mod_fits_67 rfl ?_
    refine mg_kept f_Mod_32 d_Mod_fits_68 ?_
    refine z_iconst d_Mod_fits_71 ?_
    refine j_iload_n d_Mod_fits_72 rfl ?_
    refine z_iadd d_Mod_fits_73 ?_
    refine j_iload_n d_Mod_fits_74 rfl ?_
    refine ms_kept d_Mod_fits_75 (by omega) (by omega) ?_
    rw [up_up, up_self]
    refine j_iload_n d_Mod_fits_76 rfl ?_
    exact j_ireturn rfl d_Mod_fits_77 (hQ _ _)
  · refine j_aload_n d_Mod_fits_28 rfl ?_
    refine mg_kept f_Mod_32 d_Mod_fits_29 ?_
    refine z_iconst d_Mod_fits_32 ?_
    refine j_iload_n d_Mod_fits_33 rfl ?_
    refine z_iadd d_Mod_fits_34 ?_
    refine j_iload d_Mod_fits_35 rfl ?_
    refine ms_kept d_Mod_fits_37 (by omega) (by omega) ?_
    rw [up_up]
    refine j_iload_n d_Mod_fits_38 rfl ?_
    refine j_aload_n d_Mod_fits_39 rfl ?_
    refine z_iconst d_Mod_fits_40 ?_
    refine j_aload_n d_Mod_fits_41 rfl ?_
    refine v_call0 d_Mod_fits_42 c_Mod_125 rfl ⟨_, rfl, rfl⟩ (Nat.le_of_ble_eq_true rfl) (t_Mod_length  ?_)
    rw [show up x2 (1 + p) s 0 = x2 0 from up_ne (by omega)]
    refine v_call2 d_Mod_fits_45 c_Mod_348 rfl ⟨_, rfl, rfl⟩ (Nat.le_of_ble_eq_true rfl) (t_Mod_isWhole (by omega) (by omega) (by omega) (fun j h1 h2 => by by_cases e : j = p; (subst e; rw [up_eq]; omega); (rw [up_ne (by omega)]; exact hs j h1 h2)) (by omega) (fun h45 => ?_) (fun h45 => ?_))
    · refine z_if_eq (t := 58) d_Mod_fits_48 (by decide) (by first | omega | exact hw _ | exact hx _ _ | assumption) (fun h => absurd h (by decide)) (fun _ => ?_)
      refine z_iconst d_Mod_fits_51 ?_
      refine j_iload d_Mod_fits_52 rfl ?_
      refine j_ishl d_Mod_fits_54 ?_
      refine j_goto (t := 59) d_Mod_fits_55 (by decide) ?_
      refine j_ior d_Mod_fits_59 ?_
      first
      | rw [← ftF_p s0 (by rw [← lo_eq z29 z30]; exact h45)]
      | rw [← ftF_n s0 (by rw [← lo_eq z29 z30]; exact h45)]
      refine j_istore_n d_Mod_fits_60 (by decide) ?_
      show SJ _ _ _ _ [_, _, _, _, _] _ _ _ _ _
      refine z_iinc d_Mod_fits_61 rfl (by decide) ?_
      show SJ _ _ _ _ [_, _, _, _, _] _ _ _ _ _
      refine j_goto (t := 21) d_Mod_fits_64 (by decide) ?_
      exact ih _ (by omega) _ _ _ _ rfl (by omega) (by omega)
    · refine z_if_eq (t := 58) d_Mod_fits_48 (by decide) (by first | omega | exact hw _ | exact hx _ _ | assumption) (fun _ => ?_) (fun h => absurd h (by decide))
      refine z_iconst d_Mod_fits_58 ?_
      refine j_ior d_Mod_fits_59 ?_
      first
      | rw [← ftF_p s0 (by rw [← lo_eq z29 z30]; exact h45)]
      | rw [← ftF_n s0 (by rw [← lo_eq z29 z30]; exact h45)]
      refine j_istore_n d_Mod_fits_60 (by decide) ?_
      show SJ _ _ _ _ [_, _, _, _, _] _ _ _ _ _
      refine z_iinc d_Mod_fits_61 rfl (by decide) ?_
      show SJ _ _ _ _ [_, _, _, _, _] _ _ _ _ _
      refine j_goto (t := 21) d_Mod_fits_64 (by decide) ?_
      exact ih _ (by omega) _ _ _ _ rfl (by omega) (by omega)
theorem t_Mod_fits {g : Bool} {d : Nat} {Q : List xM → Option Value → Prop} {i0 i6 i8 i9 i10 i13 i14 i18 i19 i20 i21 i22 i23 i24 i25 i27 i28 i33 i42 i43 i44 i45 i46 i47 i48 i51 i52 : Int} {x1 x2 x3 x4 x5 x7 x11 x12 x15 x16 x17 x26 x29 x30 x31 x32 x34 x35 x36 x37 x38 x39 x40 x41 x49 x50 : Int → Int} (hn0 : 0 ≤ x2 0) (hn1 : x2 0 ≤ 20) (hs : ∀ j, 0 ≤ j → j < x2 0 → 0 ≤ x2 (1 + j) ∧ x2 (1 + j) ≤ 11) {p : Int} (r1 : R32 p) (hf : ¬ (0 ≤ p ∧ p < x2 0) → Q (MM i0 i6 i8 i9 i10 i13 i14 i18 i19 i20 i21 i22 i23 i24 i25 i27 i28 i33 i42 i43 i44 i45 i46 i47 i48 i51 i52 x1 x2 x3 x4 x5 x7 x11 x12 x15 x16 x17 x26 x29 x30 x31 x32 x34 x35 x36 x37 x38 x39 x40 x41 x49 x50) (some (.int (ii (-1))))) (hQ : 0 ≤ p ∧ p < x2 0 → ∀ z29 z30, Q (MM i0 i6 i8 i9 i10 i13 i14 i18 i19 i20 i21 i22 i23 i24 i25 i27 i28 i33 i42 i43 i44 i45 i46 i47 i48 i51 i52 x1 x2 x3 x4 x5 x7 x11 x12 x15 x16 x17 x26 z29 z30 x31 x32 x34 x35 x36 x37 x38 x39 x40 x41 x49 x50) (some (.int (ftF x2 p 6)))) : CT g m_Mod_fits (d + 4) [.ref 0, .int (ii p)] (MM i0 i6 i8 i9 i10 i13 i14 i18 i19 i20 i21 i22 i23 i24 i25 i27 i28 i33 i42 i43 i44 i45 i46 i47 i48 i51 i52 x1 x2 x3 x4 x5 x7 x11 x12 x15 x16 x17 x26 x29 x30 x31 x32 x34 x35 x36 x37 x38 x39 x40 x41 x49 x50) 0 0 Q := by
  refine CT.of (by decide) (Nat.le_of_ble_eq_true rfl) ?_
  show SJ _ _ _ _ [some (.ref 0), some (.int (ii p)), none, none, none] [] _ _ _ _
  refine j_aload_n d_Mod_fits_0 rfl ?_
  refine j_iload_n d_Mod_fits_1 rfl ?_
  refine v_call1 d_Mod_fits_2 c_Mod_339 rfl ⟨_, rfl, rfl⟩ (Nat.le_of_ble_eq_true rfl) (t_Mod_isPlace (by first | omega | exact hw _ | exact hx _ _ | assumption) (by omega) (by omega) (fun h2 => ?_) (fun h2 => ?_))
  · refine z_if_ne (t := 10) d_Mod_fits_5 (by decide) (by first | omega | exact hw _ | exact hx _ _ | assumption) (fun _ => ?_) (fun h => absurd h (by decide))
    refine j_aload_n d_Mod_fits_10 rfl ?_
    refine j_iload_n d_Mod_fits_11 rfl ?_
    refine v_call1 d_Mod_fits_12 c_Mod_324 rfl ⟨_, rfl, rfl⟩ (Nat.le_of_ble_eq_true rfl) (t_Mod_signAt (by omega) (by omega) ?_)
    refine j_istore_n d_Mod_fits_15 (by decide) ?_
    show SJ _ _ _ _ [_, _, _, _, _] _ _ _ _ _
    refine z_iconst d_Mod_fits_16 ?_
    refine j_istore_n d_Mod_fits_17 (by decide) ?_
    show SJ _ _ _ _ [_, _, _, _, _] _ _ _ _ _
    refine z_iconst d_Mod_fits_18 ?_
    refine j_istore d_Mod_fits_19 (by decide) ?_
    show SJ _ _ _ _ [_, _, _, _, _] _ _ _ _ _
    have q := lp_fits (d := d) (g := g) hn0 hn1 hs (p := p) (by omega) (by omega) (hQ (by omega)) _ 0 (x2 (1 + p)) x29 x30 rfl (by omega) (by omega)
    rw [up_self] at q
    exact q
  · refine z_if_ne (t := 10) d_Mod_fits_5 (by decide) (by first | omega | exact hw _ | exact hx _ _ | assumption) (fun h => absurd h (by decide)) (fun _ => ?_)
    refine z_iconst d_Mod_fits_8 ?_
    exact z_iret rfl d_Mod_fits_9 (by first | rfl | omega | simp_all) (hf (by omega))
