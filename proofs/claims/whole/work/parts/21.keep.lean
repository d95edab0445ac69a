theorem t_Mod_putsKept {g : Bool} {d : Nat} {Q : List xM → Option Value → Prop} {i0 i6 i8 i9 i10 i13 i14 i18 i19 i20 i21 i22 i23 i24 i25 i27 i28 i33 i42 i43 i44 i45 i46 i47 i48 i51 i52 : Int} {x1 x2 x3 x4 x5 x7 x11 x12 x15 x16 x17 x26 x29 x30 x31 x32 x34 x35 x36 x37 x38 x39 x40 x41 x49 x50 : Int → Int} (hk : KOK x2) (u0 : 0 ≤ i33) (u1 : i33 ≤ 16) {s p : Int} (q1 : R32 s) (q2 : R32 p) (hno : (puR x2 s p) < 0 → ∀ j22 j23 j24 j25 y26 y29 y30, Q (MM i0 i6 i8 i9 i10 i13 i14 i18 i19 i20 i21 j22 j23 j24 j25 i27 i28 i33 i42 i43 i44 i45 i46 i47 i48 i51 i52 x1 x2 x3 x4 x5 x7 x11 x12 x15 x16 x17 y26 y29 y30 x31 x32 x34 x35 x36 x37 x38 x39 x40 x41 x49 x50) (some (.int (ii (puR x2 s p))))) (hyes : 0 ≤ (puR x2 s p) → ∀ j22 j23 j24 j25 y26 y29 y30, Q (MM i0 i6 i8 i9 i10 i13 i14 i18 i19 i20 i21 j22 j23 j24 j25 i27 i28 (shU i33 + 1) i42 i43 i44 i45 i46 i47 i48 i51 i52 x1 (putK x2 s p) x3 x4 x5 x7 x11 x12 x15 x16 x17 y26 y29 y30 (kpL x2 x31 i33 0) x32 x34 x35 x36 x37 x38 x39 x40 x41 x49 x50) (some (.int (ii (puR x2 s p))))) : CT g m_Mod_putsKept (d + 89) [.ref 0, .int (ii s), .int (ii p)] (MM i0 i6 i8 i9 i10 i13 i14 i18 i19 i20 i21 i22 i23 i24 i25 i27 i28 i33 i42 i43 i44 i45 i46 i47 i48 i51 i52 x1 x2 x3 x4 x5 x7 x11 x12 x15 x16 x17 x26 x29 x30 x31 x32 x34 x35 x36 x37 x38 x39 x40 x41 x49 x50) 0 0 Q := by
  refine CT.of (by decide) (Nat.le_of_ble_eq_true rfl) ?_
  show SJ _ _ _ _ [some (.ref 0), some (.int (ii s)), some (.int (ii p)), none] [] _ _ _ _
  obtain ⟨⟨⟨hn0, hn1⟩, hs, hpg, hdp, hmo, hco, hfo⟩, hC, hz, hLw⟩ := id hk
  have f0 := hfo.1
  have f1 : x2 25 ≤ 5 := by omega
  clear hLw
  refine j_iload_n d_Mod_putsKept_0 rfl ?_
  refine s_call1 d_Mod_putsKept_1 c_Mod_142 (Nat.le_of_ble_eq_true rfl) (t_Mod_isSign (by first | omega | exact hw _ | exact hx _ _ | assumption) (fun h1 => ?_) (fun h1 => ?_))
  · refine z_if_ne (t := 9) d_Mod_putsKept_4 (by decide) (by first | omega | exact hw _ | exact hx _ _ | assumption) (fun _ => ?_) (fun h => absurd h (by decide))
    refine j_iload_n d_Mod_putsKept_9 rfl ?_
    refine z_iconst d_Mod_putsKept_10 ?_
    refine j_aload_n d_Mod_putsKept_11 rfl ?_
    refine v_call0 d_Mod_putsKept_12 c_Mod_125 rfl ⟨_, rfl, rfl⟩ (Nat.le_of_ble_eq_true rfl) (t_Mod_length  ?_)
    refine s_call3 d_Mod_putsKept_15 c_Mod_18 (Nat.le_of_ble_eq_true rfl) (t_Mod_lies (by first | omega | exact hw _ | exact hx _ _ | assumption) (by first | omega | exact hw _ | exact hx _ _ | assumption) (by first | omega | exact hw _ | exact hx _ _ | assumption) (fun h15 => ?_) (fun h15 => ?_))
    · refine z_if_ne (t := 24) d_Mod_putsKept_18 (by decide) (by first | omega | exact hw _ | exact hx _ _ | assumption) (fun _ => ?_) (fun h => absurd h (by decide))
      refine j_aload_n d_Mod_putsKept_24 rfl ?_
      refine j_iload_n d_Mod_putsKept_25 rfl ?_
      refine j_iload_n d_Mod_putsKept_26 rfl ?_
      refine v_call2 d_Mod_putsKept_27 c_Mod_330 rfl ⟨_, rfl, rfl⟩ (Nat.le_of_ble_eq_true rfl) (t_Mod_isBarred hn0 hn1 hs hC f0 f1 hz (by omega) (by omega) (hk.has (head := 4) (s := s) (p := p) (wo := 0) (by omega) (by omega) (by omega) (by omega)) (fun h27 j22 j23 j24 j25 y26 y29 y30 => ?_) (fun h27 j22 j23 j24 j25 y26 y29 y30 => ?_))
      · refine z_if_eq (t := 36) d_Mod_putsKept_30 (by decide) (by first | omega | exact hw _ | exact hx _ _ | assumption) (fun h => absurd h (by decide)) (fun _ => ?_)
        refine z_bipush d_Mod_putsKept_33 (by decide) ?_
        have hres : (puR x2 s p) = -3 := by unfold puR; rw [if_neg (by omega), if_neg (by omega), if_pos h27]
        exact z_iret rfl d_Mod_putsKept_35 hres.symm (hno (by omega) _ _ _ _ _ _ _)
      · refine z_if_eq (t := 36) d_Mod_putsKept_30 (by decide) (by first | omega | exact hw _ | exact hx _ _ | assumption) (fun _ => ?_) (fun h => absurd h (by decide))
        refine j_aload_n d_Mod_putsKept_36 rfl ?_
        refine v_call0 d_Mod_putsKept_37 c_Mod_125 rfl ⟨_, rfl, rfl⟩ (Nat.le_of_ble_eq_true rfl) (t_Mod_length  ?_)
        refine z_bipush d_Mod_putsKept_40 (by decide) ?_
        refine z_icmp_ne (t := 48) d_Mod_putsKept_42 (by decide) (by first | omega | exact hw _ | exact hx _ _ | assumption) (by first | omega | exact hw _ | exact hx _ _ | assumption) (fun h42 => ?_) (fun h42 => ?_)
        · refine j_aload_n d_Mod_putsKept_48 rfl ?_
          refine z_iconst d_Mod_putsKept_49 ?_
          refine v_call1 d_Mod_putsKept_50 c_Mod_354 rfl ⟨_, rfl, rfl⟩ (Nat.le_of_ble_eq_true rfl) (t_Mod_keeps (by omega) (by omega) ?_)
          refine j_aload_n d_Mod_putsKept_53 rfl ?_
          refine j_iload_n d_Mod_putsKept_54 rfl ?_
          refine j_iload_n d_Mod_putsKept_55 rfl ?_
          refine v_call2 d_Mod_putsKept_56 c_Mod_327 rfl ⟨_, rfl, rfl⟩ (Nat.le_of_ble_eq_true rfl) (t_Mod_costOf hn0 hn1 hs hC f0 f1 hz (by omega) (by omega) (hk.has (head := 1) (s := s) (p := p) (wo := 1) (by omega) (by omega) (by omega) (by omega)) (fun l22 l23 l24 l25 w26 w29 w30 => ?_))
          have htr := hk.hasR (head := 1) (s := s) (p := p) (wo := 1) (by omega) (by omega) (by omega) (by omega) (by omega)
          refine j_istore_n d_Mod_putsKept_59 (by decide) ?_
          show SJ _ _ _ _ [_, _, _, _] _ _ _ _ _
          refine j_aload_n d_Mod_putsKept_60 rfl ?_
          refine j_iload_n d_Mod_putsKept_61 rfl ?_
          refine j_iload_n d_Mod_putsKept_62 rfl ?_
          refine v_call2 d_Mod_putsKept_63 c_Mod_357 rfl ⟨_, rfl, rfl⟩ (Nat.le_of_ble_eq_true rfl) (t_Mod_puts (by omega) (by omega) (by omega) ?_)
          refine j_iload_n d_Mod_putsKept_66 rfl ?_
          have hres : (puR x2 s p) = tl x2 1 s p 1 := by unfold puR; rw [if_neg (by omega), if_neg (by omega), if_neg h27, if_neg (by omega)]
          exact z_iret rfl d_Mod_putsKept_67 hres.symm (hyes (by omega) _ _ _ _ _ _ _)
        · refine z_bipush d_Mod_putsKept_45 (by decide) ?_
          have hres : (puR x2 s p) = -5 := by unfold puR; rw [if_neg (by omega), if_neg (by omega), if_neg h27, if_pos (by omega)]
          exact z_iret rfl d_Mod_putsKept_47 hres.symm (hno (by omega) _ _ _ _ _ _ _)
    · refine z_if_ne (t := 24) d_Mod_putsKept_18 (by decide) (by first | omega | exact hw _ | exact hx _ _ | assumption) (fun h => absurd h (by decide)) (fun _ => ?_)
      refine z_bipush d_Mod_putsKept_21 (by decide) ?_
      have hres : (puR x2 s p) = -2 := by unfold puR; rw [if_neg (by omega), if_pos (by omega)]
      exact z_iret rfl d_Mod_putsKept_23 hres.symm (hno (by omega) _ _ _ _ _ _ _)
  · refine z_if_ne (t := 9) d_Mod_putsKept_4 (by decide) (by first | omega | exact hw _ | exact hx _ _ | assumption) (fun h => absurd h (by decide)) (fun _ => ?_)
    refine z_iconst d_Mod_putsKept_7 ?_
    have hres : (puR x2 s p) = -1 := by unfold puR; rw [if_pos (by omega)]
    exact z_iret rfl d_Mod_putsKept_8 hres.symm (hno (by omega) _ _ _ _ _ _ _)
theorem t_Mod_cutsKept {g : Bool} {d : Nat} {Q : List xM → Option Value → Prop} {i0 i6 i8 i9 i10 i13 i14 i18 i19 i20 i21 i22 i23 i24 i25 i27 i28 i33 i42 i43 i44 i45 i46 i47 i48 i51 i52 : Int} {x1 x2 x3 x4 x5 x7 x11 x12 x15 x16 x17 x26 x29 x30 x31 x32 x34 x35 x36 x37 x38 x39 x40 x41 x49 x50 : Int → Int} (hk : KOK x2) (u0 : 0 ≤ i33) (u1 : i33 ≤ 16) {p : Int} (q2 : R32 p) (hno : (cuR x2 p) < 0 → ∀ j22 j23 j24 j25 y26 y29 y30, Q (MM i0 i6 i8 i9 i10 i13 i14 i18 i19 i20 i21 j22 j23 j24 j25 i27 i28 i33 i42 i43 i44 i45 i46 i47 i48 i51 i52 x1 x2 x3 x4 x5 x7 x11 x12 x15 x16 x17 y26 y29 y30 x31 x32 x34 x35 x36 x37 x38 x39 x40 x41 x49 x50) (some (.int (ii (cuR x2 p))))) (hyes : 0 ≤ (cuR x2 p) → ∀ j22 j23 j24 j25 y26 y29 y30, Q (MM i0 i6 i8 i9 i10 i13 i14 i18 i19 i20 i21 j22 j23 j24 j25 i27 i28 (shU i33 + 1) i42 i43 i44 i45 i46 i47 i48 i51 i52 x1 (cutK x2 p) x3 x4 x5 x7 x11 x12 x15 x16 x17 y26 y29 y30 (kpL x2 x31 i33 1) x32 x34 x35 x36 x37 x38 x39 x40 x41 x49 x50) (some (.int (ii (cuR x2 p))))) : CT g m_Mod_cutsKept (d + 89) [.ref 0, .int (ii p)] (MM i0 i6 i8 i9 i10 i13 i14 i18 i19 i20 i21 i22 i23 i24 i25 i27 i28 i33 i42 i43 i44 i45 i46 i47 i48 i51 i52 x1 x2 x3 x4 x5 x7 x11 x12 x15 x16 x17 x26 x29 x30 x31 x32 x34 x35 x36 x37 x38 x39 x40 x41 x49 x50) 0 0 Q := by
  refine CT.of (by decide) (Nat.le_of_ble_eq_true rfl) ?_
  show SJ _ _ _ _ [some (.ref 0), some (.int (ii p)), none] [] _ _ _ _
  obtain ⟨⟨⟨hn0, hn1⟩, hs, hpg, hdp, hmo, hco, hfo⟩, hC, hz, hLw⟩ := id hk
  have f0 := hfo.1
  have f1 : x2 25 ≤ 5 := by omega
  clear hLw
  refine j_aload_n d_Mod_cutsKept_0 rfl ?_
  refine j_iload_n d_Mod_cutsKept_1 rfl ?_
  refine v_call1 d_Mod_cutsKept_2 c_Mod_339 rfl ⟨_, rfl, rfl⟩ (Nat.le_of_ble_eq_true rfl) (t_Mod_isPlace (by first | omega | exact hw _ | exact hx _ _ | assumption) (by omega) (by omega) (fun h2 => ?_) (fun h2 => ?_))
  · refine z_if_ne (t := 11) d_Mod_cutsKept_5 (by decide) (by first | omega | exact hw _ | exact hx _ _ | assumption) (fun _ => ?_) (fun h => absurd h (by decide))
    have hsp := hs p (by omega) (by omega)
    have htr := hk.hasR (head := 2) (s := x2 (1 + p)) (p := p) (wo := 1) (by omega) (by omega) (by omega) (by omega) (by omega)
    refine j_aload_n d_Mod_cutsKept_11 rfl ?_
    refine z_iconst d_Mod_cutsKept_12 ?_
    refine v_call1 d_Mod_cutsKept_13 c_Mod_354 rfl ⟨_, rfl, rfl⟩ (Nat.le_of_ble_eq_true rfl) (t_Mod_keeps (by omega) (by omega) ?_)
    refine j_aload_n d_Mod_cutsKept_16 rfl ?_
    refine j_iload_n d_Mod_cutsKept_17 rfl ?_
    refine v_call1 d_Mod_cutsKept_18 c_Mod_360 rfl ⟨_, rfl, rfl⟩ (Nat.le_of_ble_eq_true rfl) (t_Mod_strikesFor hn0 hn1 hs hC f0 f1 hz (by omega) (by omega) (hk.has (head := 2) (s := x2 (1 + p)) (p := p) (wo := 1) (by omega) (by omega) (by omega) (by omega)) (fun j22 j23 j24 j25 y26 y29 y30 => ?_))
    refine j_istore_n d_Mod_cutsKept_21 (by decide) ?_
    show SJ _ _ _ _ [_, _, _] _ _ _ _ _
    refine j_aload_n d_Mod_cutsKept_22 rfl ?_
    refine j_iload_n d_Mod_cutsKept_23 rfl ?_
    refine v_call1 d_Mod_cutsKept_24 c_Mod_363 rfl ⟨_, rfl, rfl⟩ (Nat.le_of_ble_eq_true rfl) (t_Mod_cuts (by omega) (by omega) (by omega) ?_)
    refine j_iload_n d_Mod_cutsKept_27 rfl ?_
    have hres : (cuR x2 p) = tl x2 2 (x2 (1 + p)) p 1 := by unfold cuR; rw [if_neg (by omega)]
    exact z_iret rfl d_Mod_cutsKept_28 hres.symm (hyes (by omega) _ _ _ _ _ _ _)
  · refine z_if_ne (t := 11) d_Mod_cutsKept_5 (by decide) (by first | omega | exact hw _ | exact hx _ _ | assumption) (fun h => absurd h (by decide)) (fun _ => ?_)
    refine z_bipush d_Mod_cutsKept_8 (by decide) ?_
    have hres : (cuR x2 p) = -2 := by unfold cuR; rw [if_pos (by omega)]
    exact z_iret rfl d_Mod_cutsKept_10 hres.symm (hno (by omega) _ _ _ _ _ _ _)
theorem t_Mod_turnsKept {g : Bool} {d : Nat} {Q : List xM → Option Value → Prop} {i0 i6 i8 i9 i10 i13 i14 i18 i19 i20 i21 i22 i23 i24 i25 i27 i28 i33 i42 i43 i44 i45 i46 i47 i48 i51 i52 : Int} {x1 x2 x3 x4 x5 x7 x11 x12 x15 x16 x17 x26 x29 x30 x31 x32 x34 x35 x36 x37 x38 x39 x40 x41 x49 x50 : Int → Int} (hk : KOK x2) (u0 : 0 ≤ i33) (u1 : i33 ≤ 16) {p s : Int} (q1 : R32 s) (q2 : R32 p) (hno : (tuR x2 p s) < 0 → ∀ j22 j23 j24 j25 y26 y29 y30, Q (MM i0 i6 i8 i9 i10 i13 i14 i18 i19 i20 i21 j22 j23 j24 j25 i27 i28 i33 i42 i43 i44 i45 i46 i47 i48 i51 i52 x1 x2 x3 x4 x5 x7 x11 x12 x15 x16 x17 y26 y29 y30 x31 x32 x34 x35 x36 x37 x38 x39 x40 x41 x49 x50) (some (.int (ii (tuR x2 p s))))) (hyes : 0 ≤ (tuR x2 p s) → ∀ j22 j23 j24 j25 y26 y29 y30, Q (MM i0 i6 i8 i9 i10 i13 i14 i18 i19 i20 i21 j22 j23 j24 j25 i27 i28 (shU i33 + 1) i42 i43 i44 i45 i46 i47 i48 i51 i52 x1 (up x2 (1 + p) s) x3 x4 x5 x7 x11 x12 x15 x16 x17 y26 y29 y30 (kpL x2 x31 i33 2) x32 x34 x35 x36 x37 x38 x39 x40 x41 x49 x50) (some (.int (ii (tuR x2 p s))))) : CT g m_Mod_turnsKept (d + 89) [.ref 0, .int (ii p), .int (ii s)] (MM i0 i6 i8 i9 i10 i13 i14 i18 i19 i20 i21 i22 i23 i24 i25 i27 i28 i33 i42 i43 i44 i45 i46 i47 i48 i51 i52 x1 x2 x3 x4 x5 x7 x11 x12 x15 x16 x17 x26 x29 x30 x31 x32 x34 x35 x36 x37 x38 x39 x40 x41 x49 x50) 0 0 Q := by
  refine CT.of (by decide) (Nat.le_of_ble_eq_true rfl) ?_
  show SJ _ _ _ _ [some (.ref 0), some (.int (ii p)), some (.int (ii s)), none] [] _ _ _ _
  obtain ⟨⟨⟨hn0, hn1⟩, hs, hpg, hdp, hmo, hco, hfo⟩, hC, hz, hLw⟩ := id hk
  have f0 := hfo.1
  have f1 : x2 25 ≤ 5 := by omega
  clear hLw
  refine j_iload_n d_Mod_turnsKept_0 rfl ?_
  refine s_call1 d_Mod_turnsKept_1 c_Mod_142 (Nat.le_of_ble_eq_true rfl) (t_Mod_isSign (by first | omega | exact hw _ | exact hx _ _ | assumption) (fun h1 => ?_) (fun h1 => ?_))
  · refine z_if_ne (t := 9) d_Mod_turnsKept_4 (by decide) (by first | omega | exact hw _ | exact hx _ _ | assumption) (fun _ => ?_) (fun h => absurd h (by decide))
    refine j_aload_n d_Mod_turnsKept_9 rfl ?_
    refine j_iload_n d_Mod_turnsKept_10 rfl ?_
    refine v_call1 d_Mod_turnsKept_11 c_Mod_339 rfl ⟨_, rfl, rfl⟩ (Nat.le_of_ble_eq_true rfl) (t_Mod_isPlace (by first | omega | exact hw _ | exact hx _ _ | assumption) (by omega) (by omega) (fun h11 => ?_) (fun h11 => ?_))
    · refine z_if_ne (t := 20) d_Mod_turnsKept_14 (by decide) (by first | omega | exact hw _ | exact hx _ _ | assumption) (fun _ => ?_) (fun h => absurd h (by decide))
      have hsp := hs p (by omega) (by omega)
      refine j_aload_n d_Mod_turnsKept_20 rfl ?_
      refine j_iload_n d_Mod_turnsKept_21 rfl ?_
      refine v_call1 d_Mod_turnsKept_22 c_Mod_324 rfl ⟨_, rfl, rfl⟩ (Nat.le_of_ble_eq_true rfl) (t_Mod_signAt (by omega) (by omega) ?_)
      refine j_istore_n d_Mod_turnsKept_25 (by decide) ?_
      show SJ _ _ _ _ [_, _, _, _] _ _ _ _ _
      refine j_iload_n d_Mod_turnsKept_26 rfl ?_
      refine j_iload_n d_Mod_turnsKept_27 rfl ?_
      refine z_icmp_eq (t := 40) d_Mod_turnsKept_28 (by decide) (by first | omega | exact hw _ | exact hx _ _ | assumption) (by first | omega | exact hw _ | exact hx _ _ | assumption) (fun h28 => ?_) (fun h28 => ?_)
      · refine z_bipush d_Mod_turnsKept_40 (by decide) ?_
        first
        | (have hres : (tuR x2 p s) = -3 := by unfold tuR; rw [if_neg (by omega), if_neg (by omega), if_pos (Or.inl (by omega))]
           exact z_iret rfl d_Mod_turnsKept_42 hres.symm (hno (by omega) _ _ _ _ _ _ _))
        | (have hres : (tuR x2 p s) = -3 := by unfold tuR; rw [if_neg (by omega), if_neg (by omega), if_pos (Or.inr h34)]
           exact z_iret rfl d_Mod_turnsKept_42 hres.symm (hno (by omega) _ _ _ _ _ _ _))
      · refine j_aload_n d_Mod_turnsKept_31 rfl ?_
        refine j_iload_n d_Mod_turnsKept_32 rfl ?_
        refine j_iload_n d_Mod_turnsKept_33 rfl ?_
        refine v_call2 d_Mod_turnsKept_34 c_Mod_330 rfl ⟨_, rfl, rfl⟩ (Nat.le_of_ble_eq_true rfl) (t_Mod_isBarred hn0 hn1 hs hC f0 f1 hz (by omega) (by omega) (hk.has (head := 4) (s := s) (p := p) (wo := 0) (by omega) (by omega) (by omega) (by omega)) (fun h34 j22 j23 j24 j25 y26 y29 y30 => ?_) (fun h34 j22 j23 j24 j25 y26 y29 y30 => ?_))
        · refine z_if_eq (t := 43) d_Mod_turnsKept_37 (by decide) (by first | omega | exact hw _ | exact hx _ _ | assumption) (fun h => absurd h (by decide)) (fun _ => ?_)
          refine z_bipush d_Mod_turnsKept_40 (by decide) ?_
          first
          | (have hres : (tuR x2 p s) = -3 := by unfold tuR; rw [if_neg (by omega), if_neg (by omega), if_pos (Or.inl (by omega))]
             exact z_iret rfl d_Mod_turnsKept_42 hres.symm (hno (by omega) _ _ _ _ _ _ _))
          | (have hres : (tuR x2 p s) = -3 := by unfold tuR; rw [if_neg (by omega), if_neg (by omega), if_pos (Or.inr h34)]
             exact z_iret rfl d_Mod_turnsKept_42 hres.symm (hno (by omega) _ _ _ _ _ _ _))
        · refine z_if_eq (t := 43) d_Mod_turnsKept_37 (by decide) (by first | omega | exact hw _ | exact hx _ _ | assumption) (fun _ => ?_) (fun h => absurd h (by decide))
          refine j_aload_n d_Mod_turnsKept_43 rfl ?_
          refine z_iconst d_Mod_turnsKept_44 ?_
          refine v_call1 d_Mod_turnsKept_45 c_Mod_354 rfl ⟨_, rfl, rfl⟩ (Nat.le_of_ble_eq_true rfl) (t_Mod_keeps (by omega) (by omega) ?_)
          refine j_aload_n d_Mod_turnsKept_48 rfl ?_
          refine mg_kept f_Mod_32 d_Mod_turnsKept_49 ?_
          refine z_iconst d_Mod_turnsKept_52 ?_
          refine j_iload_n d_Mod_turnsKept_53 rfl ?_
          refine z_iadd d_Mod_turnsKept_54 ?_
          refine j_iload_n d_Mod_turnsKept_55 rfl ?_
          refine ms_kept d_Mod_turnsKept_56 (by omega) (by omega) ?_
          refine j_iload_n d_Mod_turnsKept_57 rfl ?_
          have hres : (tuR x2 p s) = x2 (1 + p) := by unfold tuR; rw [if_neg (by omega), if_neg (by omega), if_neg (by omega)]
          exact z_iret rfl d_Mod_turnsKept_58 hres.symm (hyes (by omega) _ _ _ _ _ _ _)
    · refine z_if_ne (t := 20) d_Mod_turnsKept_14 (by decide) (by first | omega | exact hw _ | exact hx _ _ | assumption) (fun h => absurd h (by decide)) (fun _ => ?_)
      refine z_bipush d_Mod_turnsKept_17 (by decide) ?_
      have hres : (tuR x2 p s) = -2 := by unfold tuR; rw [if_neg (by omega), if_pos (by omega)]
      exact z_iret rfl d_Mod_turnsKept_19 hres.symm (hno (by omega) _ _ _ _ _ _ _)
  · refine z_if_ne (t := 9) d_Mod_turnsKept_4 (by decide) (by first | omega | exact hw _ | exact hx _ _ | assumption) (fun h => absurd h (by decide)) (fun _ => ?_)
    refine z_iconst d_Mod_turnsKept_7 ?_
    have hres : (tuR x2 p s) = -1 := by unfold tuR; rw [if_pos (by omega)]
    exact z_iret rfl d_Mod_turnsKept_8 hres.symm (hno (by omega) _ _ _ _ _ _ _)
theorem t_Mod_passesKept {g : Bool} {d : Nat} {Q : List xM → Option Value → Prop} {i0 i6 i8 i9 i10 i13 i14 i18 i19 i20 i21 i22 i23 i24 i25 i27 i28 i33 i42 i43 i44 i45 i46 i47 i48 i51 i52 : Int} {x1 x2 x3 x4 x5 x7 x11 x12 x15 x16 x17 x26 x29 x30 x31 x32 x34 x35 x36 x37 x38 x39 x40 x41 x49 x50 : Int → Int} (hk : KOK x2) (u0 : 0 ≤ i33) (u1 : i33 ≤ 16) (hno : (paR x2) < 0 → Q (MM i0 i6 i8 i9 i10 i13 i14 i18 i19 i20 i21 i22 i23 i24 i25 i27 i28 i33 i42 i43 i44 i45 i46 i47 i48 i51 i52 x1 x2 x3 x4 x5 x7 x11 x12 x15 x16 x17 x26 x29 x30 x31 x32 x34 x35 x36 x37 x38 x39 x40 x41 x49 x50) (some (.int (ii (paR x2))))) (hyes : 0 ≤ (paR x2) → Q (MM i0 i6 i8 i9 i10 i13 i14 i18 i19 i20 i21 i22 i23 i24 i25 i27 i28 (shU i33 + 1) i42 i43 i44 i45 i46 i47 i48 i51 i52 x1 (up x2 21 (x2 21 + 1)) x3 x4 x5 x7 x11 x12 x15 x16 x17 x26 x29 x30 (kpL x2 x31 i33 3) x32 x34 x35 x36 x37 x38 x39 x40 x41 x49 x50) (some (.int (ii (paR x2))))) : CT g m_Mod_passesKept (d + 89) [.ref 0] (MM i0 i6 i8 i9 i10 i13 i14 i18 i19 i20 i21 i22 i23 i24 i25 i27 i28 i33 i42 i43 i44 i45 i46 i47 i48 i51 i52 x1 x2 x3 x4 x5 x7 x11 x12 x15 x16 x17 x26 x29 x30 x31 x32 x34 x35 x36 x37 x38 x39 x40 x41 x49 x50) 0 0 Q := by
  refine CT.of (by decide) (Nat.le_of_ble_eq_true rfl) ?_
  show SJ _ _ _ _ [some (.ref 0)] [] _ _ _ _
  obtain ⟨⟨⟨hn0, hn1⟩, hs, hpg, hdp, hmo, hco, hfo⟩, hC, hz, hLw⟩ := id hk
  have f0 := hfo.1
  have f1 : x2 25 ≤ 5 := by omega
  clear hLw
  refine j_aload_n d_Mod_passesKept_0 rfl ?_
  refine mg_kept f_Mod_32 d_Mod_passesKept_1 ?_
  refine z_bipush d_Mod_passesKept_4 (by decide) ?_
  refine ml_kept d_Mod_passesKept_6 (by omega) (by omega) ?_
  refine z_sipush d_Mod_passesKept_7 (by decide) ?_
  refine z_icmp_ne (t := 16) d_Mod_passesKept_10 (by decide) (by first | omega | exact hw _ | exact hx _ _ | assumption) (by first | omega | exact hw _ | exact hx _ _ | assumption) (fun h10 => ?_) (fun h10 => ?_)
  · refine j_aload_n d_Mod_passesKept_16 rfl ?_
    refine z_iconst d_Mod_passesKept_17 ?_
    refine v_call1 d_Mod_passesKept_18 c_Mod_354 rfl ⟨_, rfl, rfl⟩ (Nat.le_of_ble_eq_true rfl) (t_Mod_keeps (by omega) (by omega) ?_)
    refine j_aload_n d_Mod_passesKept_21 rfl ?_
    refine mg_kept f_Mod_32 d_Mod_passesKept_22 ?_
    refine z_bipush d_Mod_passesKept_25 (by decide) ?_
    refine j_dup2 d_Mod_passesKept_27 rfl rfl ?_
    refine ml_kept d_Mod_passesKept_28 (by omega) (by omega) ?_
    refine z_iconst d_Mod_passesKept_29 ?_
    refine z_iadd d_Mod_passesKept_30 ?_
    refine ms_kept d_Mod_passesKept_31 (by omega) (by omega) ?_
    refine j_aload_n d_Mod_passesKept_32 rfl ?_
    refine mg_kept f_Mod_32 d_Mod_passesKept_33 ?_
    refine z_bipush d_Mod_passesKept_36 (by decide) ?_
    refine ml_kept d_Mod_passesKept_38 (by omega) (by omega) ?_
    have hres : (paR x2) = x2 21 + 1 := by unfold paR; rw [if_neg (by omega)]
    exact z_iret rfl d_Mod_passesKept_39 (by rw [up_eq]; exact hres.symm) (hyes (by omega))
  · refine z_bipush d_Mod_passesKept_13 (by decide) ?_
    have hres : (paR x2) = -3 := by unfold paR; rw [if_pos (by omega)]
    exact z_iret rfl d_Mod_passesKept_15 hres.symm (hno (by omega))
