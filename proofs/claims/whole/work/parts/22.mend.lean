theorem t_Mod_put {g : Bool} {d : Nat} {Q : List xM → Option Value → Prop} {i0 i6 i8 i9 i10 i13 i14 i18 i19 i20 i21 i22 i23 i24 i25 i27 i28 i33 i42 i43 i44 i45 i46 i47 i48 i51 i52 : Int} {x1 x2 x3 x4 x5 x7 x11 x12 x15 x16 x17 x26 x29 x30 x31 x32 x34 x35 x36 x37 x38 x39 x40 x41 x49 x50 : Int → Int} (hk : KOK x2) (u0 : 0 ≤ i33) (u1 : i33 ≤ 16) {s p : Int} (q1 : R32 s) (q2 : R32 p) (hno : (puR x2 s p) < 0 → ∀ j22 j23 j24 j25 y26 y29 y30, Q (MM (puR x2 s p) i6 i8 i9 i10 i13 i14 i18 i19 i20 i21 j22 j23 j24 j25 i27 i28 i33 i42 i43 i44 i45 i46 i47 i48 i51 i52 (up x1 (0 - (puR x2 s p)) (x1 (0 - (puR x2 s p)) + 1)) x2 x3 x4 x5 x7 x11 x12 x15 x16 x17 y26 y29 y30 x31 x32 x34 x35 x36 x37 x38 x39 x40 x41 x49 x50) (some (.int (ii (puR x2 s p))))) (hyes : 0 ≤ (puR x2 s p) → ∀ j22 j23 j24 j25 y26 y29 y30, Q (MM 0 i6 i8 i9 i10 i13 i14 i18 i19 i20 i21 j22 j23 j24 j25 i27 i28 (shU i33 + 1) i42 i43 i44 i45 i46 i47 i48 i51 i52 x1 (putK x2 s p) x3 x4 x5 x7 x11 x12 x15 x16 x17 y26 y29 y30 (kpL x2 x31 i33 0) x32 x34 x35 x36 x37 x38 x39 x40 x41 x49 x50) (some (.int (ii (puR x2 s p))))) : CT g m_Mod_put (d + 90) [.ref 0, .int (ii s), .int (ii p)] (MM i0 i6 i8 i9 i10 i13 i14 i18 i19 i20 i21 i22 i23 i24 i25 i27 i28 i33 i42 i43 i44 i45 i46 i47 i48 i51 i52 x1 x2 x3 x4 x5 x7 x11 x12 x15 x16 x17 x26 x29 x30 x31 x32 x34 x35 x36 x37 x38 x39 x40 x41 x49 x50) 0 0 Q := by
  refine CT.of (by decide) (Nat.le_of_ble_eq_true rfl) ?_
  show SJ _ _ _ _ [some (.ref 0), some (.int (ii s)), some (.int (ii p))] [] _ _ _ _
  obtain ⟨⟨⟨hn0, hn1⟩, hs, hpg, hdp, hmo, hco, hfo⟩, hC, hz, hLw⟩ := id hk
  have f0 := hfo.1
  have f1 : x2 25 ≤ 5 := by omega
  clear hLw
  have hrr := puR_R (s := s) (p := p) hk
  refine j_aload_n d_Mod_put_0 rfl ?_
  refine j_aload_n d_Mod_put_1 rfl ?_
  refine j_iload_n d_Mod_put_2 rfl ?_
  refine j_iload_n d_Mod_put_3 rfl ?_
  refine v_call2 d_Mod_put_4 c_Mod_366 rfl ⟨_, rfl, rfl⟩ (Nat.le_of_ble_eq_true rfl) (t_Mod_putsKept hk u0 u1 q1 q2 (fun hng j22 j23 j24 j25 y26 y29 y30 => ?_) (fun hng j22 j23 j24 j25 y26 y29 y30 => ?_))
  · refine v_call1 d_Mod_put_7 c_Mod_369 rfl ⟨_, rfl, rfl⟩ (Nat.le_of_ble_eq_true rfl) (t_Mod_goodOr (by omega) (by omega) (fun hgo => ?_) (fun hgo => ?_))
    · first | (exfalso; omega) | exact j_ireturn rfl d_Mod_put_10 (hno hng _ _ _ _ _ _ _) | exact j_ireturn rfl d_Mod_put_10 (hyes hng _ _ _ _ _ _ _)
    · first | (exfalso; omega) | exact j_ireturn rfl d_Mod_put_10 (hno hng _ _ _ _ _ _ _) | exact j_ireturn rfl d_Mod_put_10 (hyes hng _ _ _ _ _ _ _)
  · refine v_call1 d_Mod_put_7 c_Mod_369 rfl ⟨_, rfl, rfl⟩ (Nat.le_of_ble_eq_true rfl) (t_Mod_goodOr (by omega) (by omega) (fun hgo => ?_) (fun hgo => ?_))
    · first | (exfalso; omega) | exact j_ireturn rfl d_Mod_put_10 (hno hng _ _ _ _ _ _ _) | exact j_ireturn rfl d_Mod_put_10 (hyes hng _ _ _ _ _ _ _)
    · first | (exfalso; omega) | exact j_ireturn rfl d_Mod_put_10 (hno hng _ _ _ _ _ _ _) | exact j_ireturn rfl d_Mod_put_10 (hyes hng _ _ _ _ _ _ _)
theorem t_Mod_cut {g : Bool} {d : Nat} {Q : List xM → Option Value → Prop} {i0 i6 i8 i9 i10 i13 i14 i18 i19 i20 i21 i22 i23 i24 i25 i27 i28 i33 i42 i43 i44 i45 i46 i47 i48 i51 i52 : Int} {x1 x2 x3 x4 x5 x7 x11 x12 x15 x16 x17 x26 x29 x30 x31 x32 x34 x35 x36 x37 x38 x39 x40 x41 x49 x50 : Int → Int} (hk : KOK x2) (u0 : 0 ≤ i33) (u1 : i33 ≤ 16) {p : Int} (q2 : R32 p) (hno : (cuR x2 p) < 0 → ∀ j22 j23 j24 j25 y26 y29 y30, Q (MM (cuR x2 p) i6 i8 i9 i10 i13 i14 i18 i19 i20 i21 j22 j23 j24 j25 i27 i28 i33 i42 i43 i44 i45 i46 i47 i48 i51 i52 (up x1 (0 - (cuR x2 p)) (x1 (0 - (cuR x2 p)) + 1)) x2 x3 x4 x5 x7 x11 x12 x15 x16 x17 y26 y29 y30 x31 x32 x34 x35 x36 x37 x38 x39 x40 x41 x49 x50) (some (.int (ii (cuR x2 p))))) (hyes : 0 ≤ (cuR x2 p) → ∀ j22 j23 j24 j25 y26 y29 y30, Q (MM 0 i6 i8 i9 i10 i13 i14 i18 i19 i20 i21 j22 j23 j24 j25 i27 i28 (shU i33 + 1) i42 i43 i44 i45 i46 i47 i48 i51 i52 x1 (cutK x2 p) x3 x4 x5 x7 x11 x12 x15 x16 x17 y26 y29 y30 (kpL x2 x31 i33 1) x32 x34 x35 x36 x37 x38 x39 x40 x41 x49 x50) (some (.int (ii (cuR x2 p))))) : CT g m_Mod_cut (d + 90) [.ref 0, .int (ii p)] (MM i0 i6 i8 i9 i10 i13 i14 i18 i19 i20 i21 i22 i23 i24 i25 i27 i28 i33 i42 i43 i44 i45 i46 i47 i48 i51 i52 x1 x2 x3 x4 x5 x7 x11 x12 x15 x16 x17 x26 x29 x30 x31 x32 x34 x35 x36 x37 x38 x39 x40 x41 x49 x50) 0 0 Q := by
  refine CT.of (by decide) (Nat.le_of_ble_eq_true rfl) ?_
  show SJ _ _ _ _ [some (.ref 0), some (.int (ii p))] [] _ _ _ _
  obtain ⟨⟨⟨hn0, hn1⟩, hs, hpg, hdp, hmo, hco, hfo⟩, hC, hz, hLw⟩ := id hk
  have f0 := hfo.1
  have f1 : x2 25 ≤ 5 := by omega
  clear hLw
  have hrr := cuR_R (p := p) hk
  refine j_aload_n d_Mod_cut_0 rfl ?_
  refine j_aload_n d_Mod_cut_1 rfl ?_
  refine j_iload_n d_Mod_cut_2 rfl ?_
  refine v_call1 d_Mod_cut_3 c_Mod_372 rfl ⟨_, rfl, rfl⟩ (Nat.le_of_ble_eq_true rfl) (t_Mod_cutsKept hk u0 u1 q2 (fun hng j22 j23 j24 j25 y26 y29 y30 => ?_) (fun hng j22 j23 j24 j25 y26 y29 y30 => ?_))
  · refine v_call1 d_Mod_cut_6 c_Mod_369 rfl ⟨_, rfl, rfl⟩ (Nat.le_of_ble_eq_true rfl) (t_Mod_goodOr (by omega) (by omega) (fun hgo => ?_) (fun hgo => ?_))
    · first | (exfalso; omega) | exact j_ireturn rfl d_Mod_cut_9 (hno hng _ _ _ _ _ _ _) | exact j_ireturn rfl d_Mod_cut_9 (hyes hng _ _ _ _ _ _ _)
    · first | (exfalso; omega) | exact j_ireturn rfl d_Mod_cut_9 (hno hng _ _ _ _ _ _ _) | exact j_ireturn rfl d_Mod_cut_9 (hyes hng _ _ _ _ _ _ _)
  · refine v_call1 d_Mod_cut_6 c_Mod_369 rfl ⟨_, rfl, rfl⟩ (Nat.le_of_ble_eq_true rfl) (t_Mod_goodOr (by omega) (by omega) (fun hgo => ?_) (fun hgo => ?_))
    · first | (exfalso; omega) | exact j_ireturn rfl d_Mod_cut_9 (hno hng _ _ _ _ _ _ _) | exact j_ireturn rfl d_Mod_cut_9 (hyes hng _ _ _ _ _ _ _)
    · first | (exfalso; omega) | exact j_ireturn rfl d_Mod_cut_9 (hno hng _ _ _ _ _ _ _) | exact j_ireturn rfl d_Mod_cut_9 (hyes hng _ _ _ _ _ _ _)
theorem t_Mod_turn {g : Bool} {d : Nat} {Q : List xM → Option Value → Prop} {i0 i6 i8 i9 i10 i13 i14 i18 i19 i20 i21 i22 i23 i24 i25 i27 i28 i33 i42 i43 i44 i45 i46 i47 i48 i51 i52 : Int} {x1 x2 x3 x4 x5 x7 x11 x12 x15 x16 x17 x26 x29 x30 x31 x32 x34 x35 x36 x37 x38 x39 x40 x41 x49 x50 : Int → Int} (hk : KOK x2) (u0 : 0 ≤ i33) (u1 : i33 ≤ 16) {p s : Int} (q1 : R32 s) (q2 : R32 p) (hno : (tuR x2 p s) < 0 → ∀ j22 j23 j24 j25 y26 y29 y30, Q (MM (tuR x2 p s) i6 i8 i9 i10 i13 i14 i18 i19 i20 i21 j22 j23 j24 j25 i27 i28 i33 i42 i43 i44 i45 i46 i47 i48 i51 i52 (up x1 (0 - (tuR x2 p s)) (x1 (0 - (tuR x2 p s)) + 1)) x2 x3 x4 x5 x7 x11 x12 x15 x16 x17 y26 y29 y30 x31 x32 x34 x35 x36 x37 x38 x39 x40 x41 x49 x50) (some (.int (ii (tuR x2 p s))))) (hyes : 0 ≤ (tuR x2 p s) → ∀ j22 j23 j24 j25 y26 y29 y30, Q (MM 0 i6 i8 i9 i10 i13 i14 i18 i19 i20 i21 j22 j23 j24 j25 i27 i28 (shU i33 + 1) i42 i43 i44 i45 i46 i47 i48 i51 i52 x1 (up x2 (1 + p) s) x3 x4 x5 x7 x11 x12 x15 x16 x17 y26 y29 y30 (kpL x2 x31 i33 2) x32 x34 x35 x36 x37 x38 x39 x40 x41 x49 x50) (some (.int (ii (tuR x2 p s))))) : CT g m_Mod_turn (d + 90) [.ref 0, .int (ii p), .int (ii s)] (MM i0 i6 i8 i9 i10 i13 i14 i18 i19 i20 i21 i22 i23 i24 i25 i27 i28 i33 i42 i43 i44 i45 i46 i47 i48 i51 i52 x1 x2 x3 x4 x5 x7 x11 x12 x15 x16 x17 x26 x29 x30 x31 x32 x34 x35 x36 x37 x38 x39 x40 x41 x49 x50) 0 0 Q := by
  refine CT.of (by decide) (Nat.le_of_ble_eq_true rfl) ?_
  show SJ _ _ _ _ [some (.ref 0), some (.int (ii p)), some (.int (ii s))] [] _ _ _ _
  obtain ⟨⟨⟨hn0, hn1⟩, hs, hpg, hdp, hmo, hco, hfo⟩, hC, hz, hLw⟩ := id hk
  have f0 := hfo.1
  have f1 : x2 25 ≤ 5 := by omega
  clear hLw
  have hrr := tuR_R (p := p) (s := s) hk
  refine j_aload_n d_Mod_turn_0 rfl ?_
  refine j_aload_n d_Mod_turn_1 rfl ?_
  refine j_iload_n d_Mod_turn_2 rfl ?_
  refine j_iload_n d_Mod_turn_3 rfl ?_
  refine v_call2 d_Mod_turn_4 c_Mod_375 rfl ⟨_, rfl, rfl⟩ (Nat.le_of_ble_eq_true rfl) (t_Mod_turnsKept hk u0 u1 q1 q2 (fun hng j22 j23 j24 j25 y26 y29 y30 => ?_) (fun hng j22 j23 j24 j25 y26 y29 y30 => ?_))
  · refine v_call1 d_Mod_turn_7 c_Mod_369 rfl ⟨_, rfl, rfl⟩ (Nat.le_of_ble_eq_true rfl) (t_Mod_goodOr (by omega) (by omega) (fun hgo => ?_) (fun hgo => ?_))
    · first | (exfalso; omega) | exact j_ireturn rfl d_Mod_turn_10 (hno hng _ _ _ _ _ _ _) | exact j_ireturn rfl d_Mod_turn_10 (hyes hng _ _ _ _ _ _ _)
    · first | (exfalso; omega) | exact j_ireturn rfl d_Mod_turn_10 (hno hng _ _ _ _ _ _ _) | exact j_ireturn rfl d_Mod_turn_10 (hyes hng _ _ _ _ _ _ _)
  · refine v_call1 d_Mod_turn_7 c_Mod_369 rfl ⟨_, rfl, rfl⟩ (Nat.le_of_ble_eq_true rfl) (t_Mod_goodOr (by omega) (by omega) (fun hgo => ?_) (fun hgo => ?_))
    · first | (exfalso; omega) | exact j_ireturn rfl d_Mod_turn_10 (hno hng _ _ _ _ _ _ _) | exact j_ireturn rfl d_Mod_turn_10 (hyes hng _ _ _ _ _ _ _)
    · first | (exfalso; omega) | exact j_ireturn rfl d_Mod_turn_10 (hno hng _ _ _ _ _ _ _) | exact j_ireturn rfl d_Mod_turn_10 (hyes hng _ _ _ _ _ _ _)
theorem t_Mod_pass {g : Bool} {d : Nat} {Q : List xM → Option Value → Prop} {i0 i6 i8 i9 i10 i13 i14 i18 i19 i20 i21 i22 i23 i24 i25 i27 i28 i33 i42 i43 i44 i45 i46 i47 i48 i51 i52 : Int} {x1 x2 x3 x4 x5 x7 x11 x12 x15 x16 x17 x26 x29 x30 x31 x32 x34 x35 x36 x37 x38 x39 x40 x41 x49 x50 : Int → Int} (hk : KOK x2) (u0 : 0 ≤ i33) (u1 : i33 ≤ 16) (hno : (paR x2) < 0 → Q (MM (paR x2) i6 i8 i9 i10 i13 i14 i18 i19 i20 i21 i22 i23 i24 i25 i27 i28 i33 i42 i43 i44 i45 i46 i47 i48 i51 i52 (up x1 (0 - (paR x2)) (x1 (0 - (paR x2)) + 1)) x2 x3 x4 x5 x7 x11 x12 x15 x16 x17 x26 x29 x30 x31 x32 x34 x35 x36 x37 x38 x39 x40 x41 x49 x50) (some (.int (ii (paR x2))))) (hyes : 0 ≤ (paR x2) → Q (MM 0 i6 i8 i9 i10 i13 i14 i18 i19 i20 i21 i22 i23 i24 i25 i27 i28 (shU i33 + 1) i42 i43 i44 i45 i46 i47 i48 i51 i52 x1 (up x2 21 (x2 21 + 1)) x3 x4 x5 x7 x11 x12 x15 x16 x17 x26 x29 x30 (kpL x2 x31 i33 3) x32 x34 x35 x36 x37 x38 x39 x40 x41 x49 x50) (some (.int (ii (paR x2))))) : CT g m_Mod_pass (d + 90) [.ref 0] (MM i0 i6 i8 i9 i10 i13 i14 i18 i19 i20 i21 i22 i23 i24 i25 i27 i28 i33 i42 i43 i44 i45 i46 i47 i48 i51 i52 x1 x2 x3 x4 x5 x7 x11 x12 x15 x16 x17 x26 x29 x30 x31 x32 x34 x35 x36 x37 x38 x39 x40 x41 x49 x50) 0 0 Q := by
  refine CT.of (by decide) (Nat.le_of_ble_eq_true rfl) ?_
  show SJ _ _ _ _ [some (.ref 0)] [] _ _ _ _
  obtain ⟨⟨⟨hn0, hn1⟩, hs, hpg, hdp, hmo, hco, hfo⟩, hC, hz, hLw⟩ := id hk
  have f0 := hfo.1
  have f1 : x2 25 ≤ 5 := by omega
  clear hLw
  have hrr := paR_R hk
  refine j_aload_n d_Mod_pass_0 rfl ?_
  refine j_aload_n d_Mod_pass_1 rfl ?_
  refine v_call0 d_Mod_pass_2 c_Mod_378 rfl ⟨_, rfl, rfl⟩ (Nat.le_of_ble_eq_true rfl) (t_Mod_passesKept hk u0 u1 (fun hng => ?_) (fun hng => ?_))
  · refine v_call1 d_Mod_pass_5 c_Mod_369 rfl ⟨_, rfl, rfl⟩ (Nat.le_of_ble_eq_true rfl) (t_Mod_goodOr (by omega) (by omega) (fun hgo => ?_) (fun hgo => ?_))
    · first | (exfalso; omega) | exact j_ireturn rfl d_Mod_pass_8 (hno hng) | exact j_ireturn rfl d_Mod_pass_8 (hyes hng)
    · first | (exfalso; omega) | exact j_ireturn rfl d_Mod_pass_8 (hno hng) | exact j_ireturn rfl d_Mod_pass_8 (hyes hng)
  · refine v_call1 d_Mod_pass_5 c_Mod_369 rfl ⟨_, rfl, rfl⟩ (Nat.le_of_ble_eq_true rfl) (t_Mod_goodOr (by omega) (by omega) (fun hgo => ?_) (fun hgo => ?_))
    · first | (exfalso; omega) | exact j_ireturn rfl d_Mod_pass_8 (hno hng) | exact j_ireturn rfl d_Mod_pass_8 (hyes hng)
    · first | (exfalso; omega) | exact j_ireturn rfl d_Mod_pass_8 (hno hng) | exact j_ireturn rfl d_Mod_pass_8 (hyes hng)
theorem lp_laysCosts2 {g : Bool} {d : Nat} {Q : List xM → Option Value → Prop} {i0 i6 i8 i9 i10 i13 i14 i18 i19 i20 i21 i27 i28 i33 i42 i43 i44 i45 i46 i47 i48 i51 i52 : Int} {x1 x2 x3 x4 x5 x7 x11 x12 x15 x16 x17 x31 x32 x34 x36 x37 x38 x39 x40 x41 x49 x50 : Int → Int} (hk : KOK x2) {s : Int} (s0 : 0 ≤ s) (s1 : s < 6) (hkk : ∀ z, (∀ a p, 0 ≤ a → a < s + 1 → 0 ≤ p → p ≤ x2 0 → z (21 * a + p) = cA x2 a p) → ∀ j22 j23 j24 j25 y26 y29 y30, SJ g m_Mod_laysCosts (d + 89) 2 [some (.ref 0), some (.int (ii (s + 1))), none] [] (MM i0 i6 i8 i9 i10 i13 i14 i18 i19 i20 i21 j22 j23 j24 j25 i27 i28 i33 i42 i43 i44 i45 i46 i47 i48 i51 i52 x1 x2 x3 x4 x5 x7 x11 x12 x15 x16 x17 y26 y29 y30 x31 x32 x34 z x36 x37 x38 x39 x40 x41 x49 x50) 0 0 Q) : ∀ (nn : Nat) (p : Int) (z : Int → Int) (j22 : Int) (j23 : Int) (j24 : Int) (j25 : Int) (y26 : Int → Int) (y29 : Int → Int) (y30 : Int → Int), (x2 0 + 1 - p).toNat = nn → 0 ≤ p → p ≤ x2 0 + 1 → (∀ a p, 0 ≤ a → a < s → 0 ≤ p → p ≤ x2 0 → z (21 * a + p) = cA x2 a p) → (∀ b, 0 ≤ b → b < p → z (21 * s + b) = cA x2 s b) → SJ g m_Mod_laysCosts (d + 89) 10 [some (.ref 0), some (.int (ii s)), some (.int (ii p))] [] (MM i0 i6 i8 i9 i10 i13 i14 i18 i19 i20 i21 j22 j23 j24 j25 i27 i28 i33 i42 i43 i44 i45 i46 i47 i48 i51 i52 x1 x2 x3 x4 x5 x7 x11 x12 x15 x16 x17 y26 y29 y30 x31 x32 x34 z x36 x37 x38 x39 x40 x41 x49 x50) 0 0 Q := by
  intro nn
  induction nn using Nat.strongRecOn with
  | ind nn ih =>
  intro p z j22 j23 j24 j25 y26 y29 y30 hn p0 p1 b1 b2
  obtain ⟨⟨⟨hn0, hn1⟩, hs, hpg, hdp, hmo, hco, hfo⟩, hC, hz, hLw⟩ := id hk
  have f0 := hfo.1
  have f1 : x2 25 ≤ 5 := by omega
  clear hLw
  refine j_iload_n d_Mod_laysCosts_10 rfl ?_
  refine j_aload_n d_Mod_laysCosts_11 rfl ?_
  refine v_call0 d_Mod_laysCosts_12 c_Mod_125 rfl ⟨_, rfl, rfl⟩ (Nat.le_of_ble_eq_true rfl) (t_Mod_length  ?_)
  refine z_icmp_gt (t := 60) d_Mod_laysCosts_15 (by decide) (by first | omega | exact hw _ | exact hx _ _ | assumption) (by first | omega | exact hw _ | exact hx _ _ | assumption) (fun h15 => ?_) (fun h15 => ?_)
  · refine z_iinc d_Mod_laysCosts_60 rfl (by decide) ?_
    show SJ _ _ _ _ [_, _, _] _ _ _ _ _
    refine j_goto (t := 2) d_Mod_laysCosts_63 (by decide) ?_
    refine SJ.mask [true, true, false] ?_
    show SJ _ _ _ _ [_, _, none] _ _ _ _ _
    refine hkk z (fun a b h1 h2 h3 h4 => ?_) _ _ _ _ _ _ _
    by_cases e : a = s
    · subst e
      exact b2 b h3 (by omega)
    · exact b1 a b h1 (by omega) h3 h4
  · refine j_aload_n d_Mod_laysCosts_18 rfl ?_
    refine mg_costAt f_Mod_85 d_Mod_laysCosts_19 ?_
    refine z_bipush d_Mod_laysCosts_22 (by decide) ?_
    refine j_iload_n d_Mod_laysCosts_24 rfl ?_
    refine z_imul d_Mod_laysCosts_25 ?_
    refine j_iload_n d_Mod_laysCosts_26 rfl ?_
    refine z_iadd d_Mod_laysCosts_27 ?_
    refine j_aload_n d_Mod_laysCosts_28 rfl ?_
    refine j_iload_n d_Mod_laysCosts_29 rfl ?_
    refine j_iload_n d_Mod_laysCosts_30 rfl ?_
    refine v_call2 d_Mod_laysCosts_31 c_Mod_330 rfl ⟨_, rfl, rfl⟩ (Nat.le_of_ble_eq_true rfl) (t_Mod_isBarred hn0 hn1 hs hC f0 f1 hz (by omega) (by omega) (hk.has (head := 4) (s := s) (p := p) (wo := 0) (by omega) (by omega) (by omega) (by omega)) (fun h31 j22 j23 j24 j25 y26 y29 y30 => ?_) (fun h31 j22 j23 j24 j25 y26 y29 y30 => ?_))
    · refine z_if_eq (t := 42) d_Mod_laysCosts_34 (by decide) (by first | omega | exact hw _ | exact hx _ _ | assumption) (fun h => absurd h (by decide)) (fun _ => ?_)
      refine z_ldc (w := 1000000) d_Mod_laysCosts_37 k_Mod_158 (by decide) ?_
      refine j_goto (t := 53) d_Mod_laysCosts_39 (by decide) ?_
      refine ms_costAt d_Mod_laysCosts_53 (by omega) (by omega) ?_
      refine z_iinc d_Mod_laysCosts_54 rfl (by decide) ?_
      show SJ _ _ _ _ [_, _, _] _ _ _ _ _
      refine j_goto (t := 10) d_Mod_laysCosts_57 (by decide) ?_
      first
      | (exfalso; omega)
      | exact ih _ (by omega) _ _ _ _ _ _ _ _ _ rfl (by omega) (by omega) (by intro a b h1 h2 h3 h4; rw [up_ne (by omega)]; exact b1 a b h1 h2 h3 h4) (by intro b h1 h2; by_cases e : b = p; (subst e; rw [up_eq]; unfold cA; first | rw [if_pos h31] | rw [if_neg h31]); (rw [up_ne (by omega)]; exact b2 b h1 (by omega)))
    · refine z_if_eq (t := 42) d_Mod_laysCosts_34 (by decide) (by first | omega | exact hw _ | exact hx _ _ | assumption) (fun _ => ?_) (fun h => absurd h (by decide))
      refine z_bipush d_Mod_laysCosts_42 (by decide) ?_
      refine j_aload_n d_Mod_laysCosts_44 rfl ?_
      refine j_iload_n d_Mod_laysCosts_45 rfl ?_
      refine j_iload_n d_Mod_laysCosts_46 rfl ?_
      refine v_call2 d_Mod_laysCosts_47 c_Mod_327 rfl ⟨_, rfl, rfl⟩ (Nat.le_of_ble_eq_true rfl) (t_Mod_costOf hn0 hn1 hs hC f0 f1 hz (by omega) (by omega) (hk.has (head := 1) (s := s) (p := p) (wo := 1) (by omega) (by omega) (by omega) (by omega)) (fun l22 l23 l24 l25 w26 w29 w30 => ?_))
      refine z_imul d_Mod_laysCosts_50 ?_
      refine z_iconst d_Mod_laysCosts_51 ?_
      refine z_iadd d_Mod_laysCosts_52 ?_
      refine ms_costAt d_Mod_laysCosts_53 (by omega) (by omega) ?_
      refine z_iinc d_Mod_laysCosts_54 rfl (by decide) ?_
      show SJ _ _ _ _ [_, _, _] _ _ _ _ _
      refine j_goto (t := 10) d_Mod_laysCosts_57 (by decide) ?_
      first
      | (exfalso; omega)
      | exact ih _ (by omega) _ _ _ _ _ _ _ _ _ rfl (by omega) (by omega) (by intro a b h1 h2 h3 h4; rw [up_ne (by omega)]; exact b1 a b h1 h2 h3 h4) (by intro b h1 h2; by_cases e : b = p; (subst e; rw [up_eq]; unfold cA; first | rw [if_pos h31] | rw [if_neg h31]); (rw [up_ne (by omega)]; exact b2 b h1 (by omega)))
theorem lp_laysCosts {g : Bool} {d : Nat} {Q : List xM → Option Value → Prop} {i0 i6 i8 i9 i10 i13 i14 i18 i19 i20 i21 i27 i28 i33 i42 i43 i44 i45 i46 i47 i48 i51 i52 : Int} {x1 x2 x3 x4 x5 x7 x11 x12 x15 x16 x17 x31 x32 x34 x36 x37 x38 x39 x40 x41 x49 x50 : Int → Int} (hk : KOK x2) (hQ : ∀ z, (∀ s p, 0 ≤ s → s < 6 → 0 ≤ p → p ≤ x2 0 → z (21 * s + p) = cA x2 s p) → ∀ j22 j23 j24 j25 y26 y29 y30, Q (MM i0 i6 i8 i9 i10 i13 i14 i18 i19 i20 i21 j22 j23 j24 j25 i27 i28 i33 i42 i43 i44 i45 i46 i47 i48 i51 i52 x1 x2 x3 x4 x5 x7 x11 x12 x15 x16 x17 y26 y29 y30 x31 x32 x34 z x36 x37 x38 x39 x40 x41 x49 x50) none) : ∀ (nn : Nat) (s : Int) (z : Int → Int) (j22 : Int) (j23 : Int) (j24 : Int) (j25 : Int) (y26 : Int → Int) (y29 : Int → Int) (y30 : Int → Int), (6 - s).toNat = nn → 0 ≤ s → s ≤ 6 → (∀ a p, 0 ≤ a → a < s → 0 ≤ p → p ≤ x2 0 → z (21 * a + p) = cA x2 a p) → SJ g m_Mod_laysCosts (d + 89) 2 [some (.ref 0), some (.int (ii s)), none] [] (MM i0 i6 i8 i9 i10 i13 i14 i18 i19 i20 i21 j22 j23 j24 j25 i27 i28 i33 i42 i43 i44 i45 i46 i47 i48 i51 i52 x1 x2 x3 x4 x5 x7 x11 x12 x15 x16 x17 y26 y29 y30 x31 x32 x34 z x36 x37 x38 x39 x40 x41 x49 x50) 0 0 Q := by
  intro nn
  induction nn using Nat.strongRecOn with
  | ind nn ih =>
  intro s z j22 j23 j24 j25 y26 y29 y30 hn s0 s1 b1
  refine j_iload_n d_Mod_laysCosts_2 rfl ?_
  refine z_bipush d_Mod_laysCosts_3 (by decide) ?_
  refine z_icmp_ge (t := 66) d_Mod_laysCosts_5 (by decide) (by first | omega | exact hw _ | exact hx _ _ | assumption) (by first | omega | exact hw _ | exact hx _ _ | assumption) (fun h5 => ?_) (fun h5 => ?_)
  · exact j_return rfl d_Mod_laysCosts_66 (hQ z (fun a b h1 h2 h3 h4 => b1 a b h1 (by omega) h3 h4) _ _ _ _ _ _ _)
  · refine z_iconst d_Mod_laysCosts_8 ?_
    refine j_istore_n d_Mod_laysCosts_9 (by decide) ?_
    show SJ _ _ _ _ [_, _, _] _ _ _ _ _
    refine lp_laysCosts2 hk (by omega) (by omega) (fun z2 h2 j22 j23 j24 j25 y26 y29 y30 => ?_) _ 0 z _ _ _ _ _ _ _ rfl (by omega) (by have := hk.1.1; omega) b1 (fun b h1 h2 => by omega)
    exact ih _ (by omega) _ _ _ _ _ _ _ _ _ rfl (by omega) (by omega) h2
theorem t_Mod_laysCosts {g : Bool} {d : Nat} {Q : List xM → Option Value → Prop} {i0 i6 i8 i9 i10 i13 i14 i18 i19 i20 i21 i22 i23 i24 i25 i27 i28 i33 i42 i43 i44 i45 i46 i47 i48 i51 i52 : Int} {x1 x2 x3 x4 x5 x7 x11 x12 x15 x16 x17 x26 x29 x30 x31 x32 x34 x35 x36 x37 x38 x39 x40 x41 x49 x50 : Int → Int} (hk : KOK x2) (hQ : ∀ z, (∀ s p, 0 ≤ s → s < 6 → 0 ≤ p → p ≤ x2 0 → z (21 * s + p) = cA x2 s p) → ∀ j22 j23 j24 j25 y26 y29 y30, Q (MM i0 i6 i8 i9 i10 i13 i14 i18 i19 i20 i21 j22 j23 j24 j25 i27 i28 i33 i42 i43 i44 i45 i46 i47 i48 i51 i52 x1 x2 x3 x4 x5 x7 x11 x12 x15 x16 x17 y26 y29 y30 x31 x32 x34 z x36 x37 x38 x39 x40 x41 x49 x50) none) : CT g m_Mod_laysCosts (d + 89) [.ref 0] (MM i0 i6 i8 i9 i10 i13 i14 i18 i19 i20 i21 i22 i23 i24 i25 i27 i28 i33 i42 i43 i44 i45 i46 i47 i48 i51 i52 x1 x2 x3 x4 x5 x7 x11 x12 x15 x16 x17 x26 x29 x30 x31 x32 x34 x35 x36 x37 x38 x39 x40 x41 x49 x50) 0 0 Q := by
  refine CT.of (by decide) (Nat.le_of_ble_eq_true rfl) ?_
  show SJ _ _ _ _ [some (.ref 0), none, none] [] _ _ _ _
  refine z_iconst d_Mod_laysCosts_0 ?_
  refine j_istore_n d_Mod_laysCosts_1 (by decide) ?_
  show SJ _ _ _ _ [_, _, _] _ _ _ _ _
  exact lp_laysCosts hk hQ _ 0 x35 _ _ _ _ _ _ _ rfl (by omega) (by omega) (fun a b h1 h2 => by omega)
theorem lp_mendsAhead {g : Bool} {d : Nat} {Q : List xM → Option Value → Prop} {i0 i6 i8 i9 i10 i13 i14 i18 i19 i20 i21 i22 i23 i24 i25 i27 i28 i33 i42 i43 i44 i45 i46 i47 i48 i51 i52 : Int} {x1 x2 x3 x4 x5 x7 x11 x12 x15 x16 x17 x26 x29 x30 x31 x32 x34 x35 x36 x37 x38 x39 x40 x41 x49 x50 : Int → Int} (hn1 : x2 0 ≤ 20) (hs : ∀ j, 0 ≤ j → j < x2 0 → 0 ≤ x2 (1 + j) ∧ x2 (1 + j) ≤ 11) {a b : Int} (a0 : 0 ≤ a) (a1 : a < b) (b1 : b ≤ x2 0) {F c : Int → Int → Int} (hT : ∀ p q, a ≤ p → p ≤ q → q ≤ b → q - p < b - a → x34 (21 * p + q) = F p q ∧ 0 ≤ F p q ∧ F p q ≤ 1000000) (hc : ∀ s p, 0 ≤ s → s < 6 → 0 ≤ p → p ≤ x2 0 → x35 (21 * s + p) = c s p ∧ 0 ≤ c s p ∧ c s p ≤ 1000000) {r : Int} (hQ : Q (MM i0 i6 i8 i9 i10 i13 i14 i18 i19 i20 i21 i22 i23 i24 i25 i27 i28 i33 i42 i43 i44 i45 i46 i47 i48 i51 i52 x1 x2 x3 x4 x5 x7 x11 x12 x15 x16 x17 x26 x29 x30 x31 x32 x34 x35 x36 x37 x38 x39 x40 x41 x49 x50) (some (.int (ii r)))) : ∀ (nn : Nat) (q : Int) (is : Int), (b - q).toNat = nn → a ≤ q → q ≤ b → 0 ≤ is → is ≤ 1000000 → mnF (fun q => if clo x2 q then c (kd (x2 (1 + q))) a + F a q + F (q + 1) b else 1000000) (b - q).toNat q is = r → SJ g m_Mod_mendsAhead (d + 2) 6 [some (.ref 0), some (.int (ii a)), some (.int (ii b)), some (.int (ii is)), some (.int (ii q))] [] (MM i0 i6 i8 i9 i10 i13 i14 i18 i19 i20 i21 i22 i23 i24 i25 i27 i28 i33 i42 i43 i44 i45 i46 i47 i48 i51 i52 x1 x2 x3 x4 x5 x7 x11 x12 x15 x16 x17 x26 x29 x30 x31 x32 x34 x35 x36 x37 x38 x39 x40 x41 x49 x50) 0 0 Q := by
  intro nn
  induction nn using Nat.strongRecOn with
  | ind nn ih =>
  intro q is hn q0 q1 w0 w1 hR
  refine j_iload d_Mod_mendsAhead_6 rfl ?_
  refine j_iload_n d_Mod_mendsAhead_8 rfl ?_
  refine z_icmp_ge (t := 72) d_Mod_mendsAhead_9 (by decide) (by first | omega | exact hw _ | exact hx _ _ | assumption) (by first | omega | exact hw _ | exact hx _ _ | assumption) (fun h9 => ?_) (fun h9 => ?_)
  · rw [mnF_0 (by omega)] at hR
    subst hR
    refine j_iload_n d_Mod_mendsAhead_72 rfl ?_
    exact z_iret rfl d_Mod_mendsAhead_73 (by first | rfl | omega | simp_all) hQ
  · have hsq := hs q (by omega) (by omega)
    rw [mnF_s (by omega)] at hR
    refine j_aload_n d_Mod_mendsAhead_12 rfl ?_
    refine j_iload d_Mod_mendsAhead_13 rfl ?_
    refine v_call1 d_Mod_mendsAhead_15 c_Mod_324 rfl ⟨_, rfl, rfl⟩ (Nat.le_of_ble_eq_true rfl) (t_Mod_signAt (by omega) (by omega) ?_)
    refine s_call1 d_Mod_mendsAhead_18 c_Mod_333 (Nat.le_of_ble_eq_true rfl) (t_Mod_closes0 (by first | omega | exact hw _ | exact hx _ _ | assumption) (fun h18 => ?_) (fun h18 => ?_))
    · refine z_if_eq (t := 66) d_Mod_mendsAhead_21 (by decide) (by first | omega | exact hw _ | exact hx _ _ | assumption) (fun h => absurd h (by decide)) (fun _ => ?_)
      have hkd := kd_op3 (s := x2 (1 + q)) (by omega) (by omega)
      obtain ⟨c1, c2, c3⟩ := hc (x2 (1 + q) - 3) a (by omega) (by omega) (by omega) (by omega)
      obtain ⟨t1, t2, t3⟩ := hT a q (by omega) (by omega) (by omega) (by omega)
      obtain ⟨t4, t5, t6⟩ := hT (q + 1) b (by omega) (by omega) (by omega) (by omega)
      rw [if_pos (by omega), hkd] at hR
      refine j_iload_n d_Mod_mendsAhead_24 rfl ?_
      refine j_aload_n d_Mod_mendsAhead_25 rfl ?_
      refine mg_costAt f_Mod_85 d_Mod_mendsAhead_26 ?_
      refine z_bipush d_Mod_mendsAhead_29 (by decide) ?_
      refine j_aload_n d_Mod_mendsAhead_31 rfl ?_
      refine j_iload d_Mod_mendsAhead_32 rfl ?_
      refine v_call1 d_Mod_mendsAhead_34 c_Mod_324 rfl ⟨_, rfl, rfl⟩ (Nat.le_of_ble_eq_true rfl) (t_Mod_signAt (by omega) (by omega) ?_)
      refine s_call1 d_Mod_mendsAhead_37 c_Mod_309 (Nat.le_of_ble_eq_true rfl) (t_Mod_kindOf (by first | omega | exact hw _ | exact hx _ _ | assumption) ?_)
      rw [hkd]
      refine z_imul d_Mod_mendsAhead_40 ?_
      refine j_iload_n d_Mod_mendsAhead_41 rfl ?_
      refine z_iadd d_Mod_mendsAhead_42 ?_
      refine ml_costAt d_Mod_mendsAhead_43 (by omega) (by omega) ?_
      refine j_aload_n d_Mod_mendsAhead_44 rfl ?_
      refine j_iload_n d_Mod_mendsAhead_45 rfl ?_
      refine j_iload d_Mod_mendsAhead_46 rfl ?_
      refine v_call2 d_Mod_mendsAhead_48 c_Mod_384 rfl ⟨_, rfl, rfl⟩ (Nat.le_of_ble_eq_true rfl) (t_Mod_leastOf (by omega) (by omega) (by omega) (by omega) ?_)
      refine z_iadd d_Mod_mendsAhead_51 ?_
      refine j_aload_n d_Mod_mendsAhead_52 rfl ?_
      refine j_iload d_Mod_mendsAhead_53 rfl ?_
      refine z_iconst d_Mod_mendsAhead_55 ?_
      refine z_iadd d_Mod_mendsAhead_56 ?_
      refine j_iload_n d_Mod_mendsAhead_57 rfl ?_
      refine v_call2 d_Mod_mendsAhead_58 c_Mod_384 rfl ⟨_, rfl, rfl⟩ (Nat.le_of_ble_eq_true rfl) (t_Mod_leastOf (by omega) (by omega) (by omega) (by omega) ?_)
      rw [c1, t1, t4]
      refine z_iadd d_Mod_mendsAhead_61 ?_
      refine s_call2 d_Mod_mendsAhead_62 c_Mod_387 (Nat.le_of_ble_eq_true rfl) (t_Mod_lesser (by first | omega | exact hw _ | exact hx _ _ | assumption) (by first | omega | exact hw _ | exact hx _ _ | assumption) ?_)
      refine j_istore_n d_Mod_mendsAhead_65 (by decide) ?_
      show SJ _ _ _ _ [_, _, _, _, _] _ _ _ _ _
      refine z_iinc d_Mod_mendsAhead_66 rfl (by decide) ?_
      show SJ _ _ _ _ [_, _, _, _, _] _ _ _ _ _
      refine j_goto (t := 6) d_Mod_mendsAhead_69 (by decide) ?_
      first
      | (exfalso; omega)
      | exact ih _ (by omega) _ _ rfl (by omega) (by omega) (by omega) (by omega) hR
      | (rw [if_neg (by omega), show min is (1000000 : Int) = is by omega] at hR
         exact ih _ (by omega) _ _ rfl (by omega) (by omega) (by omega) (by omega) hR)
    · refine z_if_eq (t := 66) d_Mod_mendsAhead_21 (by decide) (by first | omega | exact hw _ | exact hx _ _ | assumption) (fun _ => ?_) (fun h => absurd h (by decide))
      refine z_iinc d_Mod_mendsAhead_66 rfl (by decide) ?_
      show SJ _ _ _ _ [_, _, _, _, _] _ _ _ _ _
      refine j_goto (t := 6) d_Mod_mendsAhead_69 (by decide) ?_
      first
      | (exfalso; omega)
      | exact ih _ (by omega) _ _ rfl (by omega) (by omega) (by omega) (by omega) hR
      | (rw [if_neg (by omega), show min is (1000000 : Int) = is by omega] at hR
         exact ih _ (by omega) _ _ rfl (by omega) (by omega) (by omega) (by omega) hR)
theorem t_Mod_mendsAhead {g : Bool} {d : Nat} {Q : List xM → Option Value → Prop} {i0 i6 i8 i9 i10 i13 i14 i18 i19 i20 i21 i22 i23 i24 i25 i27 i28 i33 i42 i43 i44 i45 i46 i47 i48 i51 i52 : Int} {x1 x2 x3 x4 x5 x7 x11 x12 x15 x16 x17 x26 x29 x30 x31 x32 x34 x35 x36 x37 x38 x39 x40 x41 x49 x50 : Int → Int} (hn1 : x2 0 ≤ 20) (hs : ∀ j, 0 ≤ j → j < x2 0 → 0 ≤ x2 (1 + j) ∧ x2 (1 + j) ≤ 11) {a b : Int} (a0 : 0 ≤ a) (a1 : a < b) (b1 : b ≤ x2 0) {F c : Int → Int → Int} (hT : ∀ p q, a ≤ p → p ≤ q → q ≤ b → q - p < b - a → x34 (21 * p + q) = F p q ∧ 0 ≤ F p q ∧ F p q ≤ 1000000) (hc : ∀ s p, 0 ≤ s → s < 6 → 0 ≤ p → p ≤ x2 0 → x35 (21 * s + p) = c s p ∧ 0 ≤ c s p ∧ c s p ≤ 1000000) (hQ : Q (MM i0 i6 i8 i9 i10 i13 i14 i18 i19 i20 i21 i22 i23 i24 i25 i27 i28 i33 i42 i43 i44 i45 i46 i47 i48 i51 i52 x1 x2 x3 x4 x5 x7 x11 x12 x15 x16 x17 x26 x29 x30 x31 x32 x34 x35 x36 x37 x38 x39 x40 x41 x49 x50) (some (.int (ii (mdA x2 c 1000000 F a b))))) : CT g m_Mod_mendsAhead (d + 2) [.ref 0, .int (ii a), .int (ii b)] (MM i0 i6 i8 i9 i10 i13 i14 i18 i19 i20 i21 i22 i23 i24 i25 i27 i28 i33 i42 i43 i44 i45 i46 i47 i48 i51 i52 x1 x2 x3 x4 x5 x7 x11 x12 x15 x16 x17 x26 x29 x30 x31 x32 x34 x35 x36 x37 x38 x39 x40 x41 x49 x50) 0 0 Q := by
  refine CT.of (by decide) (Nat.le_of_ble_eq_true rfl) ?_
  show SJ _ _ _ _ [some (.ref 0), some (.int (ii a)), some (.int (ii b)), none, none] [] _ _ _ _
  refine z_ldc (w := 1000000) d_Mod_mendsAhead_0 k_Mod_158 (by decide) ?_
  refine j_istore_n d_Mod_mendsAhead_2 (by decide) ?_
  show SJ _ _ _ _ [_, _, _, _, _] _ _ _ _ _
  refine j_iload_n d_Mod_mendsAhead_3 rfl ?_
  refine j_istore d_Mod_mendsAhead_4 (by decide) ?_
  show SJ _ _ _ _ [_, _, _, _, _] _ _ _ _ _
  exact lp_mendsAhead hn1 hs a0 a1 b1 hT hc hQ _ a 1000000 rfl (by omega) (by omega) (by omega) (by omega) rfl
theorem lp_mendsOpen2 {g : Bool} {d : Nat} {Q : List xM → Option Value → Prop} {i0 i6 i8 i9 i10 i13 i14 i18 i19 i20 i21 i22 i23 i24 i25 i27 i28 i33 i42 i43 i44 i45 i46 i47 i48 i51 i52 : Int} {x1 x2 x3 x4 x5 x7 x11 x12 x15 x16 x17 x26 x29 x30 x31 x32 x34 x35 x36 x37 x38 x39 x40 x41 x49 x50 : Int → Int} (hn1 : x2 0 ≤ 20) (hs : ∀ j, 0 ≤ j → j < x2 0 → 0 ≤ x2 (1 + j) ∧ x2 (1 + j) ≤ 11) {a b : Int} (a0 : 0 ≤ a) (a1 : a < b) (b1 : b ≤ x2 0) {F c : Int → Int → Int} (hT : ∀ p q, a ≤ p → p ≤ q → q ≤ b → q - p < b - a → x34 (21 * p + q) = F p q ∧ 0 ≤ F p q ∧ F p q ≤ 1000000) (hc : ∀ s p, 0 ≤ s → s < 6 → 0 ≤ p → p ≤ x2 0 → x35 (21 * s + p) = c s p ∧ 0 ≤ c s p ∧ c s p ≤ 1000000) (ho : x2 (1 + a) < 3) {r : Int} (hQ : Q (MM i0 i6 i8 i9 i10 i13 i14 i18 i19 i20 i21 i22 i23 i24 i25 i27 i28 i33 i42 i43 i44 i45 i46 i47 i48 i51 i52 x1 x2 x3 x4 x5 x7 x11 x12 x15 x16 x17 x26 x29 x30 x31 x32 x34 x35 x36 x37 x38 x39 x40 x41 x49 x50) (some (.int (ii r)))) : ∀ (nn : Nat) (q : Int) (is : Int), (b + 1 - q).toNat = nn → a + 1 ≤ q → q ≤ b + 1 → 0 ≤ is → is ≤ 1000000 → mnF (fun q => F (a + 1) q + c (3 + kd (x2 (1 + a))) q + F q b) (b + 1 - q).toNat q is = r → SJ g m_Mod_mendsOpen (d + 3) 74 [some (.ref 0), some (.int (ii a)), some (.int (ii b)), some (.int (ii is)), some (.int (ii (21 * (3 + kd (x2 (1 + a)))))), some (.int (ii q))] [] (MM i0 i6 i8 i9 i10 i13 i14 i18 i19 i20 i21 i22 i23 i24 i25 i27 i28 i33 i42 i43 i44 i45 i46 i47 i48 i51 i52 x1 x2 x3 x4 x5 x7 x11 x12 x15 x16 x17 x26 x29 x30 x31 x32 x34 x35 x36 x37 x38 x39 x40 x41 x49 x50) 0 0 Q := by
  intro nn
  induction nn using Nat.strongRecOn with
  | ind nn ih =>
  intro q is hn q0 q1 w0 w1 hR
  refine j_iload d_Mod_mendsOpen_74 rfl ?_
  refine j_iload_n d_Mod_mendsOpen_76 rfl ?_
  refine z_icmp_gt (t := 119) d_Mod_mendsOpen_77 (by decide) (by first | omega | exact hw _ | exact hx _ _ | assumption) (by first | omega | exact hw _ | exact hx _ _ | assumption) (fun h77 => ?_) (fun h77 => ?_)
  · rw [mnF_0 (by omega)] at hR
    subst hR
    refine j_iload_n d_Mod_mendsOpen_119 rfl ?_
    exact z_iret rfl d_Mod_mendsOpen_120 (by first | rfl | omega | simp_all) hQ
  · have hsa := hs a (by omega) (by omega)
    have hkd := kd_op (s := x2 (1 + a)) (by omega) (by omega)
    rw [mnF_s (by omega)] at hR
    obtain ⟨c1, c2, c3⟩ := hc (3 + kd (x2 (1 + a))) q (by omega) (by omega) (by omega) (by omega)
    obtain ⟨t1, t2, t3⟩ := hT (a + 1) q (by omega) (by omega) (by omega) (by omega)
    obtain ⟨t4, t5, t6⟩ := hT q b (by omega) (by omega) (by omega) (by omega)
    refine j_iload_n d_Mod_mendsOpen_80 rfl ?_
    refine j_aload_n d_Mod_mendsOpen_81 rfl ?_
    refine j_iload_n d_Mod_mendsOpen_82 rfl ?_
    refine z_iconst d_Mod_mendsOpen_83 ?_
    refine z_iadd d_Mod_mendsOpen_84 ?_
    refine j_iload d_Mod_mendsOpen_85 rfl ?_
    refine v_call2 d_Mod_mendsOpen_87 c_Mod_384 rfl ⟨_, rfl, rfl⟩ (Nat.le_of_ble_eq_true rfl) (t_Mod_leastOf (by omega) (by omega) (by omega) (by omega) ?_)
    refine j_aload_n d_Mod_mendsOpen_90 rfl ?_
    refine mg_costAt f_Mod_85 d_Mod_mendsOpen_91 ?_
    refine j_iload d_Mod_mendsOpen_94 rfl ?_
    refine j_iload d_Mod_mendsOpen_96 rfl ?_
    refine z_iadd d_Mod_mendsOpen_98 ?_
    refine ml_costAt d_Mod_mendsOpen_99 (by omega) (by omega) ?_
    refine z_iadd d_Mod_mendsOpen_100 ?_
    refine j_aload_n d_Mod_mendsOpen_101 rfl ?_
    refine j_iload d_Mod_mendsOpen_102 rfl ?_
    refine j_iload_n d_Mod_mendsOpen_104 rfl ?_
    refine v_call2 d_Mod_mendsOpen_105 c_Mod_384 rfl ⟨_, rfl, rfl⟩ (Nat.le_of_ble_eq_true rfl) (t_Mod_leastOf (by omega) (by omega) (by omega) (by omega) ?_)
    rw [c1, t1, t4]
    refine z_iadd d_Mod_mendsOpen_108 ?_
    refine s_call2 d_Mod_mendsOpen_109 c_Mod_387 (Nat.le_of_ble_eq_true rfl) (t_Mod_lesser (by first | omega | exact hw _ | exact hx _ _ | assumption) (by first | omega | exact hw _ | exact hx _ _ | assumption) ?_)
    refine j_istore_n d_Mod_mendsOpen_112 (by decide) ?_
    show SJ _ _ _ _ [_, _, _, _, _, _] _ _ _ _ _
    refine z_iinc d_Mod_mendsOpen_113 rfl (by decide) ?_
    show SJ _ _ _ _ [_, _, _, _, _, _] _ _ _ _ _
    refine j_goto (t := 74) d_Mod_mendsOpen_116 (by decide) ?_
    exact ih _ (by omega) _ _ rfl (by omega) (by omega) (by omega) (by omega) hR
theorem lp_mendsOpen {g : Bool} {d : Nat} {Q : List xM → Option Value → Prop} {i0 i6 i8 i9 i10 i13 i14 i18 i19 i20 i21 i22 i23 i24 i25 i27 i28 i33 i42 i43 i44 i45 i46 i47 i48 i51 i52 : Int} {x1 x2 x3 x4 x5 x7 x11 x12 x15 x16 x17 x26 x29 x30 x31 x32 x34 x35 x36 x37 x38 x39 x40 x41 x49 x50 : Int → Int} (hn1 : x2 0 ≤ 20) (hs : ∀ j, 0 ≤ j → j < x2 0 → 0 ≤ x2 (1 + j) ∧ x2 (1 + j) ≤ 11) {a b : Int} (a0 : 0 ≤ a) (a1 : a < b) (b1 : b ≤ x2 0) {F c : Int → Int → Int} (hT : ∀ p q, a ≤ p → p ≤ q → q ≤ b → q - p < b - a → x34 (21 * p + q) = F p q ∧ 0 ≤ F p q ∧ F p q ≤ 1000000) (hc : ∀ s p, 0 ≤ s → s < 6 → 0 ≤ p → p ≤ x2 0 → x35 (21 * s + p) = c s p ∧ 0 ≤ c s p ∧ c s p ≤ 1000000) (ho : x2 (1 + a) < 3) {r : Int} (hQ : Q (MM i0 i6 i8 i9 i10 i13 i14 i18 i19 i20 i21 i22 i23 i24 i25 i27 i28 i33 i42 i43 i44 i45 i46 i47 i48 i51 i52 x1 x2 x3 x4 x5 x7 x11 x12 x15 x16 x17 x26 x29 x30 x31 x32 x34 x35 x36 x37 x38 x39 x40 x41 x49 x50) (some (.int (ii (mnF (fun q => F (a + 1) q + c (3 + kd (x2 (1 + a))) q + F q b) (b + 1 - (a + 1)).toNat (a + 1) r))))) : ∀ (nn : Nat) (q : Int) (is : Int), (b - q).toNat = nn → a + 1 ≤ q → q ≤ b → 0 ≤ is → is ≤ 1000000 → mnF (fun q => if prd x2 a q then F (a + 1) q + F (q + 1) b else 1000000) (b - q).toNat q is = r → SJ g m_Mod_mendsOpen (d + 3) 8 [some (.ref 0), some (.int (ii a)), some (.int (ii b)), some (.int (ii is)), some (.int (ii q)), none] [] (MM i0 i6 i8 i9 i10 i13 i14 i18 i19 i20 i21 i22 i23 i24 i25 i27 i28 i33 i42 i43 i44 i45 i46 i47 i48 i51 i52 x1 x2 x3 x4 x5 x7 x11 x12 x15 x16 x17 x26 x29 x30 x31 x32 x34 x35 x36 x37 x38 x39 x40 x41 x49 x50) 0 0 Q := by
  intro nn
  induction nn using Nat.strongRecOn with
  | ind nn ih =>
  intro q is hn q0 q1 w0 w1 hR
  refine j_iload d_Mod_mendsOpen_8 rfl ?_
  refine j_iload_n d_Mod_mendsOpen_10 rfl ?_
  refine z_icmp_ge (t := 54) d_Mod_mendsOpen_11 (by decide) (by first | omega | exact hw _ | exact hx _ _ | assumption) (by first | omega | exact hw _ | exact hx _ _ | assumption) (fun h11 => ?_) (fun h11 => ?_)
  · rw [mnF_0 (by omega)] at hR
    subst hR
    have hsa := hs a (by omega) (by omega)
    refine z_bipush d_Mod_mendsOpen_54 (by decide) ?_
    refine z_iconst d_Mod_mendsOpen_56 ?_
    refine j_aload_n d_Mod_mendsOpen_57 rfl ?_
    refine j_iload_n d_Mod_mendsOpen_58 rfl ?_
    refine v_call1 d_Mod_mendsOpen_59 c_Mod_324 rfl ⟨_, rfl, rfl⟩ (Nat.le_of_ble_eq_true rfl) (t_Mod_signAt (by omega) (by omega) ?_)
    refine s_call1 d_Mod_mendsOpen_62 c_Mod_309 (Nat.le_of_ble_eq_true rfl) (t_Mod_kindOf (by first | omega | exact hw _ | exact hx _ _ | assumption) ?_)
    refine z_iadd d_Mod_mendsOpen_65 ?_
    refine z_imul d_Mod_mendsOpen_66 ?_
    refine j_istore d_Mod_mendsOpen_67 (by decide) ?_
    show SJ _ _ _ _ [_, _, _, _, _, _] _ _ _ _ _
    refine j_iload_n d_Mod_mendsOpen_69 rfl ?_
    refine z_iconst d_Mod_mendsOpen_70 ?_
    refine z_iadd d_Mod_mendsOpen_71 ?_
    refine j_istore d_Mod_mendsOpen_72 (by decide) ?_
    show SJ _ _ _ _ [_, _, _, _, _, _] _ _ _ _ _
    exact lp_mendsOpen2 hn1 hs a0 a1 b1 hT hc ho hQ _ (a + 1) _ rfl (by omega) (by omega) (by omega) (by omega) rfl
  · have hsa := hs a (by omega) (by omega)
    have hsq := hs q (by omega) (by omega)
    rw [mnF_s (by omega)] at hR
    obtain ⟨t1, t2, t3⟩ := hT (a + 1) q (by omega) (by omega) (by omega) (by omega)
    obtain ⟨t4, t5, t6⟩ := hT (q + 1) b (by omega) (by omega) (by omega) (by omega)
    refine j_aload_n d_Mod_mendsOpen_14 rfl ?_
    refine j_iload_n d_Mod_mendsOpen_15 rfl ?_
    refine j_iload d_Mod_mendsOpen_16 rfl ?_
    refine v_call2 d_Mod_mendsOpen_18 c_Mod_381 rfl ⟨_, rfl, rfl⟩ (Nat.le_of_ble_eq_true rfl) (t_Mod_arePair (by omega) (by omega) (by omega) (by omega) hsa.1 hsa.2 hsq.1 hsq.2 (fun h18 => ?_) (fun h18 => ?_))
    · refine z_if_eq (t := 48) d_Mod_mendsOpen_21 (by decide) (by first | omega | exact hw _ | exact hx _ _ | assumption) (fun h => absurd h (by decide)) (fun _ => ?_)
      refine j_iload_n d_Mod_mendsOpen_24 rfl ?_
      refine j_aload_n d_Mod_mendsOpen_25 rfl ?_
      refine j_iload_n d_Mod_mendsOpen_26 rfl ?_
      refine z_iconst d_Mod_mendsOpen_27 ?_
      refine z_iadd d_Mod_mendsOpen_28 ?_
      refine j_iload d_Mod_mendsOpen_29 rfl ?_
      refine v_call2 d_Mod_mendsOpen_31 c_Mod_384 rfl ⟨_, rfl, rfl⟩ (Nat.le_of_ble_eq_true rfl) (t_Mod_leastOf (by omega) (by omega) (by omega) (by omega) ?_)
      refine j_aload_n d_Mod_mendsOpen_34 rfl ?_
      refine j_iload d_Mod_mendsOpen_35 rfl ?_
      refine z_iconst d_Mod_mendsOpen_37 ?_
      refine z_iadd d_Mod_mendsOpen_38 ?_
      refine j_iload_n d_Mod_mendsOpen_39 rfl ?_
      refine v_call2 d_Mod_mendsOpen_40 c_Mod_384 rfl ⟨_, rfl, rfl⟩ (Nat.le_of_ble_eq_true rfl) (t_Mod_leastOf (by omega) (by omega) (by omega) (by omega) ?_)
      rw [t1, t4]
      rw [if_pos h18] at hR
      refine z_iadd d_Mod_mendsOpen_43 ?_
      refine s_call2 d_Mod_mendsOpen_44 c_Mod_387 (Nat.le_of_ble_eq_true rfl) (t_Mod_lesser (by first | omega | exact hw _ | exact hx _ _ | assumption) (by first | omega | exact hw _ | exact hx _ _ | assumption) ?_)
      refine j_istore_n d_Mod_mendsOpen_47 (by decide) ?_
      show SJ _ _ _ _ [_, _, _, _, _, _] _ _ _ _ _
      refine z_iinc d_Mod_mendsOpen_48 rfl (by decide) ?_
      show SJ _ _ _ _ [_, _, _, _, _, _] _ _ _ _ _
      refine j_goto (t := 8) d_Mod_mendsOpen_51 (by decide) ?_
      first
      | (rw [if_neg h18, show min is (1000000 : Int) = is by omega] at hR
         exact ih _ (by omega) _ _ rfl (by omega) (by omega) (by omega) (by omega) hR)
      | exact ih _ (by omega) _ _ rfl (by omega) (by omega) (by omega) (by omega) hR
    · refine z_if_eq (t := 48) d_Mod_mendsOpen_21 (by decide) (by first | omega | exact hw _ | exact hx _ _ | assumption) (fun _ => ?_) (fun h => absurd h (by decide))
      refine z_iinc d_Mod_mendsOpen_48 rfl (by decide) ?_
      show SJ _ _ _ _ [_, _, _, _, _, _] _ _ _ _ _
      refine j_goto (t := 8) d_Mod_mendsOpen_51 (by decide) ?_
      first
      | (rw [if_neg h18, show min is (1000000 : Int) = is by omega] at hR
         exact ih _ (by omega) _ _ rfl (by omega) (by omega) (by omega) (by omega) hR)
      | exact ih _ (by omega) _ _ rfl (by omega) (by omega) (by omega) (by omega) hR
theorem t_Mod_mendsOpen {g : Bool} {d : Nat} {Q : List xM → Option Value → Prop} {i0 i6 i8 i9 i10 i13 i14 i18 i19 i20 i21 i22 i23 i24 i25 i27 i28 i33 i42 i43 i44 i45 i46 i47 i48 i51 i52 : Int} {x1 x2 x3 x4 x5 x7 x11 x12 x15 x16 x17 x26 x29 x30 x31 x32 x34 x35 x36 x37 x38 x39 x40 x41 x49 x50 : Int → Int} (hn1 : x2 0 ≤ 20) (hs : ∀ j, 0 ≤ j → j < x2 0 → 0 ≤ x2 (1 + j) ∧ x2 (1 + j) ≤ 11) {a b : Int} (a0 : 0 ≤ a) (a1 : a < b) (b1 : b ≤ x2 0) {F c : Int → Int → Int} (hT : ∀ p q, a ≤ p → p ≤ q → q ≤ b → q - p < b - a → x34 (21 * p + q) = F p q ∧ 0 ≤ F p q ∧ F p q ≤ 1000000) (hc : ∀ s p, 0 ≤ s → s < 6 → 0 ≤ p → p ≤ x2 0 → x35 (21 * s + p) = c s p ∧ 0 ≤ c s p ∧ c s p ≤ 1000000) (ho : x2 (1 + a) < 3) (hQ : Q (MM i0 i6 i8 i9 i10 i13 i14 i18 i19 i20 i21 i22 i23 i24 i25 i27 i28 i33 i42 i43 i44 i45 i46 i47 i48 i51 i52 x1 x2 x3 x4 x5 x7 x11 x12 x15 x16 x17 x26 x29 x30 x31 x32 x34 x35 x36 x37 x38 x39 x40 x41 x49 x50) (some (.int (ii (mdO x2 c 1000000 F a b))))) : CT g m_Mod_mendsOpen (d + 3) [.ref 0, .int (ii a), .int (ii b)] (MM i0 i6 i8 i9 i10 i13 i14 i18 i19 i20 i21 i22 i23 i24 i25 i27 i28 i33 i42 i43 i44 i45 i46 i47 i48 i51 i52 x1 x2 x3 x4 x5 x7 x11 x12 x15 x16 x17 x26 x29 x30 x31 x32 x34 x35 x36 x37 x38 x39 x40 x41 x49 x50) 0 0 Q := by
  refine CT.of (by decide) (Nat.le_of_ble_eq_true rfl) ?_
  show SJ _ _ _ _ [some (.ref 0), some (.int (ii a)), some (.int (ii b)), none, none, none] [] _ _ _ _
  refine z_ldc (w := 1000000) d_Mod_mendsOpen_0 k_Mod_158 (by decide) ?_
  refine j_istore_n d_Mod_mendsOpen_2 (by decide) ?_
  show SJ _ _ _ _ [_, _, _, _, _, _] _ _ _ _ _
  refine j_iload_n d_Mod_mendsOpen_3 rfl ?_
  refine z_iconst d_Mod_mendsOpen_4 ?_
  refine z_iadd d_Mod_mendsOpen_5 ?_
  refine j_istore d_Mod_mendsOpen_6 (by decide) ?_
  show SJ _ _ _ _ [_, _, _, _, _, _] _ _ _ _ _
  exact lp_mendsOpen hn1 hs a0 a1 b1 hT hc ho hQ _ (a + 1) 1000000 rfl (by omega) (by omega) (by omega) (by omega) rfl
theorem lp_laysMended2 {g : Bool} {d : Nat} {Q : List xM → Option Value → Prop} {i0 i6 i8 i9 i10 i13 i14 i18 i19 i20 i21 i22 i23 i24 i25 i27 i28 i33 i42 i43 i44 i45 i46 i47 i48 i51 i52 : Int} {x1 x2 x3 x4 x5 x7 x11 x12 x15 x16 x17 x26 x29 x30 x31 x32 x35 x36 x37 x38 x39 x40 x41 x49 x50 : Int → Int} (hk : KOK x2) (hcc : ∀ s p, 0 ≤ s → s < 6 → 0 ≤ p → p ≤ x2 0 → x35 (21 * s + p) = cA x2 s p) {a : Int} (a0 : 0 ≤ a) (a1 : a ≤ x2 0) (hkk : ∀ z, (∀ p q, a - 1 < p → p ≤ q → q ≤ x2 0 → z (21 * p + q) = MD x2 p q) → SJ g m_Mod_laysMended (d + 4) 11 [some (.ref 0), some (.int (ii (x2 0))), some (.int (ii (a - 1))), none, none] [] (MM i0 i6 i8 i9 i10 i13 i14 i18 i19 i20 i21 i22 i23 i24 i25 i27 i28 i33 i42 i43 i44 i45 i46 i47 i48 i51 i52 x1 x2 x3 x4 x5 x7 x11 x12 x15 x16 x17 x26 x29 x30 x31 x32 z x35 x36 x37 x38 x39 x40 x41 x49 x50) 0 0 Q) : ∀ (nn : Nat) (b : Int) (z : Int → Int), (x2 0 + 1 - b).toNat = nn → a + 1 ≤ b → b ≤ x2 0 + 1 → (∀ p q, a < p → p ≤ q → q ≤ x2 0 → z (21 * p + q) = MD x2 p q) → (∀ q, a ≤ q → q < b → z (21 * a + q) = MD x2 a q) → SJ g m_Mod_laysMended (d + 4) 31 [some (.ref 0), some (.int (ii (x2 0))), some (.int (ii a)), some (.int (ii b)), none] [] (MM i0 i6 i8 i9 i10 i13 i14 i18 i19 i20 i21 i22 i23 i24 i25 i27 i28 i33 i42 i43 i44 i45 i46 i47 i48 i51 i52 x1 x2 x3 x4 x5 x7 x11 x12 x15 x16 x17 x26 x29 x30 x31 x32 z x35 x36 x37 x38 x39 x40 x41 x49 x50) 0 0 Q := by
  intro nn
  induction nn using Nat.strongRecOn with
  | ind nn ih =>
  intro b z hn b0 b1 za zb
  obtain ⟨⟨⟨hn0, hn1⟩, hs, hpg, hdp, hmo, hco, hfo⟩, hC, hz, hLw⟩ := id hk
  have f0 := hfo.1
  have f1 : x2 25 ≤ 5 := by omega
  clear hLw
  refine j_iload_n d_Mod_laysMended_31 rfl ?_
  refine j_iload_n d_Mod_laysMended_32 rfl ?_
  refine z_icmp_gt (t := 118) d_Mod_laysMended_33 (by decide) (by first | omega | exact hw _ | exact hx _ _ | assumption) (by first | omega | exact hw _ | exact hx _ _ | assumption) (fun h33 => ?_) (fun h33 => ?_)
  · refine z_iinc d_Mod_laysMended_118 rfl (by decide) ?_
    show SJ _ _ _ _ [_, _, _, _, _] _ _ _ _ _
    refine j_goto (t := 11) d_Mod_laysMended_121 (by decide) ?_
    refine SJ.mask [true, true, true, false, false] ?_
    show SJ _ _ _ _ [_, _, _, none, none] _ _ _ _ _
    rw [show a + -1 = a - 1 by omega]
    refine hkk z (fun p q e1 e2 e3 => ?_)
    by_cases e : p = a
    · subst e
      exact zb q (by omega) (by omega)
    · exact za p q (by omega) e2 e3
  · have hsa := hs a (by omega) (by omega)
    refine j_aload_n d_Mod_laysMended_36 rfl ?_
    refine j_iload_n d_Mod_laysMended_37 rfl ?_
    refine j_iload_n d_Mod_laysMended_38 rfl ?_
    refine v_call2 d_Mod_laysMended_39 c_Mod_393 rfl ⟨_, rfl, rfl⟩ (Nat.le_of_ble_eq_true rfl) (t_Mod_mendsAhead (F := MD x2) (c := cA x2) (by omega) hs (by omega) (by omega) (by omega) (fun p q e1 e2 e3 e4 => ⟨(by by_cases e : p = a; (subst e; exact zb q (by omega) (by omega)); exact za p q (by omega) (by omega) (by omega)), MD_R hk (by omega) (by omega) (by omega)⟩) (fun s p e1 e2 e3 e4 => ⟨hcc s p e1 e2 e3 e4, cA_R hk e1 e2 e3 e4⟩) ?_)
    have hA := mdA_R (F := MD x2) (a := a) (b := b) hk (by omega) (by omega) (by omega)
    refine j_istore d_Mod_laysMended_42 (by decide) ?_
    show SJ _ _ _ _ [_, _, _, _, _] _ _ _ _ _
    refine j_aload_n d_Mod_laysMended_44 rfl ?_
    refine j_iload_n d_Mod_laysMended_45 rfl ?_
    refine v_call1 d_Mod_laysMended_46 c_Mod_324 rfl ⟨_, rfl, rfl⟩ (Nat.le_of_ble_eq_true rfl) (t_Mod_signAt (by omega) (by omega) ?_)
    refine s_call1 d_Mod_laysMended_49 c_Mod_22 (Nat.le_of_ble_eq_true rfl) (t_Mod_isName (by first | omega | exact hw _ | exact hx _ _ | assumption) (fun h49 => ?_) (fun h49 => ?_))
    · refine z_if_eq (t := 70) d_Mod_laysMended_52 (by decide) (by first | omega | exact hw _ | exact hx _ _ | assumption) (fun h => absurd h (by decide)) (fun _ => ?_)
      refine j_iload d_Mod_laysMended_55 rfl ?_
      refine j_aload_n d_Mod_laysMended_57 rfl ?_
      refine j_iload_n d_Mod_laysMended_58 rfl ?_
      refine z_iconst d_Mod_laysMended_59 ?_
      refine z_iadd d_Mod_laysMended_60 ?_
      refine j_iload_n d_Mod_laysMended_61 rfl ?_
      refine v_call2 d_Mod_laysMended_62 c_Mod_384 rfl ⟨_, rfl, rfl⟩ (Nat.le_of_ble_eq_true rfl) (t_Mod_leastOf (by omega) (by omega) (by omega) (by omega) ?_)
      rw [za (a + 1) b (by omega) (by omega) (by omega)]
      have hM := MD_R (a := a + 1) (b := b) hk (by omega) (by omega) (by omega)
      refine s_call2 d_Mod_laysMended_65 c_Mod_387 (Nat.le_of_ble_eq_true rfl) (t_Mod_lesser (by first | omega | exact hw _ | exact hx _ _ | assumption) (by first | omega | exact hw _ | exact hx _ _ | assumption) ?_)
      refine j_istore d_Mod_laysMended_68 (by decide) ?_
      show SJ _ _ _ _ [_, _, _, _, _] _ _ _ _ _
      refine j_aload_n d_Mod_laysMended_70 rfl ?_
      refine j_iload_n d_Mod_laysMended_71 rfl ?_
      refine v_call1 d_Mod_laysMended_72 c_Mod_324 rfl ⟨_, rfl, rfl⟩ (Nat.le_of_ble_eq_true rfl) (t_Mod_signAt (by omega) (by omega) ?_)
      refine s_call1 d_Mod_laysMended_75 c_Mod_312 (Nat.le_of_ble_eq_true rfl) (t_Mod_opens0 (by first | omega | exact hw _ | exact hx _ _ | assumption) (fun h75 => ?_) (fun h75 => ?_))
      · refine z_if_eq (t := 94) d_Mod_laysMended_78 (by decide) (by first | omega | exact hw _ | exact hx _ _ | assumption) (fun h => absurd h (by decide)) (fun _ => ?_)
        refine j_iload d_Mod_laysMended_81 rfl ?_
        refine j_aload_n d_Mod_laysMended_83 rfl ?_
        refine j_iload_n d_Mod_laysMended_84 rfl ?_
        refine j_iload_n d_Mod_laysMended_85 rfl ?_
        refine v_call2 d_Mod_laysMended_86 c_Mod_396 rfl ⟨_, rfl, rfl⟩ (Nat.le_of_ble_eq_true rfl) (t_Mod_mendsOpen (F := MD x2) (c := cA x2) (by omega) hs (by omega) (by omega) (by omega) (fun p q e1 e2 e3 e4 => ⟨(by by_cases e : p = a; (subst e; exact zb q (by omega) (by omega)); exact za p q (by omega) (by omega) (by omega)), MD_R hk (by omega) (by omega) (by omega)⟩) (fun s p e1 e2 e3 e4 => ⟨hcc s p e1 e2 e3 e4, cA_R hk e1 e2 e3 e4⟩) (by omega) ?_)
        have hO := mdO_R (a := a) (b := b) hk (by omega) (by omega) (by omega) (by omega)
        refine s_call2 d_Mod_laysMended_89 c_Mod_387 (Nat.le_of_ble_eq_true rfl) (t_Mod_lesser (by first | omega | exact hw _ | exact hx _ _ | assumption) (by first | omega | exact hw _ | exact hx _ _ | assumption) ?_)
        refine j_istore d_Mod_laysMended_92 (by decide) ?_
        show SJ _ _ _ _ [_, _, _, _, _] _ _ _ _ _
        refine j_aload_n d_Mod_laysMended_94 rfl ?_
        refine mg_least f_Mod_82 d_Mod_laysMended_95 ?_
        refine z_bipush d_Mod_laysMended_98 (by decide) ?_
        refine j_iload_n d_Mod_laysMended_100 rfl ?_
        refine z_imul d_Mod_laysMended_101 ?_
        refine j_iload_n d_Mod_laysMended_102 rfl ?_
        refine z_iadd d_Mod_laysMended_103 ?_
        refine z_ldc (w := 1000000) d_Mod_laysMended_104 k_Mod_158 (by decide) ?_
        refine j_iload d_Mod_laysMended_106 rfl ?_
        refine s_call2 d_Mod_laysMended_108 c_Mod_387 (Nat.le_of_ble_eq_true rfl) (t_Mod_lesser (by first | omega | exact hw _ | exact hx _ _ | assumption) (by first | omega | exact hw _ | exact hx _ _ | assumption) ?_)
        refine ms_least d_Mod_laysMended_111 (by omega) (by omega) ?_
        refine z_iinc d_Mod_laysMended_112 rfl (by decide) ?_
        show SJ _ _ _ _ [_, _, _, _, _] _ _ _ _ _
        refine j_goto (t := 31) d_Mod_laysMended_115 (by decide) ?_
        refine SJ.mask [true, true, true, true, false] ?_
        show SJ _ _ _ _ [_, _, _, _, none] _ _ _ _ _
        first
        | (exfalso; omega)
        | exact ih _ (by omega) _ _ rfl (by omega) (by omega) (fun p q e1 e2 e3 => by rw [up_ne (by omega)]; exact za p q e1 e2 e3) (fun q e1 e2 => by by_cases e : q = b; (subst e; rw [up_eq]; exact ((MD_eq (by omega)).trans (mdS_def.trans (by first | rw [if_pos (by omega)] | rw [if_neg (by omega), if_pos (by omega)] | rw [if_neg (by omega), if_neg (by omega)]))).symm); (rw [up_ne (by omega)]; exact zb q e1 (by omega)))
      · refine z_if_eq (t := 94) d_Mod_laysMended_78 (by decide) (by first | omega | exact hw _ | exact hx _ _ | assumption) (fun _ => ?_) (fun h => absurd h (by decide))
        refine j_aload_n d_Mod_laysMended_94 rfl ?_
        refine mg_least f_Mod_82 d_Mod_laysMended_95 ?_
        refine z_bipush d_Mod_laysMended_98 (by decide) ?_
        refine j_iload_n d_Mod_laysMended_100 rfl ?_
        refine z_imul d_Mod_laysMended_101 ?_
        refine j_iload_n d_Mod_laysMended_102 rfl ?_
        refine z_iadd d_Mod_laysMended_103 ?_
        refine z_ldc (w := 1000000) d_Mod_laysMended_104 k_Mod_158 (by decide) ?_
        refine j_iload d_Mod_laysMended_106 rfl ?_
        refine s_call2 d_Mod_laysMended_108 c_Mod_387 (Nat.le_of_ble_eq_true rfl) (t_Mod_lesser (by first | omega | exact hw _ | exact hx _ _ | assumption) (by first | omega | exact hw _ | exact hx _ _ | assumption) ?_)
        refine ms_least d_Mod_laysMended_111 (by omega) (by omega) ?_
        refine z_iinc d_Mod_laysMended_112 rfl (by decide) ?_
        show SJ _ _ _ _ [_, _, _, _, _] _ _ _ _ _
        refine j_goto (t := 31) d_Mod_laysMended_115 (by decide) ?_
        refine SJ.mask [true, true, true, true, false] ?_
        show SJ _ _ _ _ [_, _, _, _, none] _ _ _ _ _
        first
        | (exfalso; omega)
        | exact ih _ (by omega) _ _ rfl (by omega) (by omega) (fun p q e1 e2 e3 => by rw [up_ne (by omega)]; exact za p q e1 e2 e3) (fun q e1 e2 => by by_cases e : q = b; (subst e; rw [up_eq]; exact ((MD_eq (by omega)).trans (mdS_def.trans (by first | rw [if_pos (by omega)] | rw [if_neg (by omega), if_pos (by omega)] | rw [if_neg (by omega), if_neg (by omega)]))).symm); (rw [up_ne (by omega)]; exact zb q e1 (by omega)))
    · refine z_if_eq (t := 70) d_Mod_laysMended_52 (by decide) (by first | omega | exact hw _ | exact hx _ _ | assumption) (fun _ => ?_) (fun h => absurd h (by decide))
      refine j_aload_n d_Mod_laysMended_70 rfl ?_
      refine j_iload_n d_Mod_laysMended_71 rfl ?_
      refine v_call1 d_Mod_laysMended_72 c_Mod_324 rfl ⟨_, rfl, rfl⟩ (Nat.le_of_ble_eq_true rfl) (t_Mod_signAt (by omega) (by omega) ?_)
      refine s_call1 d_Mod_laysMended_75 c_Mod_312 (Nat.le_of_ble_eq_true rfl) (t_Mod_opens0 (by first | omega | exact hw _ | exact hx _ _ | assumption) (fun h75 => ?_) (fun h75 => ?_))
      · refine z_if_eq (t := 94) d_Mod_laysMended_78 (by decide) (by first | omega | exact hw _ | exact hx _ _ | assumption) (fun h => absurd h (by decide)) (fun _ => ?_)
        refine j_iload d_Mod_laysMended_81 rfl ?_
        refine j_aload_n d_Mod_laysMended_83 rfl ?_
        refine j_iload_n d_Mod_laysMended_84 rfl ?_
        refine j_iload_n d_Mod_laysMended_85 rfl ?_
        refine v_call2 d_Mod_laysMended_86 c_Mod_396 rfl ⟨_, rfl, rfl⟩ (Nat.le_of_ble_eq_true rfl) (t_Mod_mendsOpen (F := MD x2) (c := cA x2) (by omega) hs (by omega) (by omega) (by omega) (fun p q e1 e2 e3 e4 => ⟨(by by_cases e : p = a; (subst e; exact zb q (by omega) (by omega)); exact za p q (by omega) (by omega) (by omega)), MD_R hk (by omega) (by omega) (by omega)⟩) (fun s p e1 e2 e3 e4 => ⟨hcc s p e1 e2 e3 e4, cA_R hk e1 e2 e3 e4⟩) (by omega) ?_)
        have hO := mdO_R (a := a) (b := b) hk (by omega) (by omega) (by omega) (by omega)
        refine s_call2 d_Mod_laysMended_89 c_Mod_387 (Nat.le_of_ble_eq_true rfl) (t_Mod_lesser (by first | omega | exact hw _ | exact hx _ _ | assumption) (by first | omega | exact hw _ | exact hx _ _ | assumption) ?_)
        refine j_istore d_Mod_laysMended_92 (by decide) ?_
        show SJ _ _ _ _ [_, _, _, _, _] _ _ _ _ _
        refine j_aload_n d_Mod_laysMended_94 rfl ?_
        refine mg_least f_Mod_82 d_Mod_laysMended_95 ?_
        refine z_bipush d_Mod_laysMended_98 (by decide) ?_
        refine j_iload_n d_Mod_laysMended_100 rfl ?_
        refine z_imul d_Mod_laysMended_101 ?_
        refine j_iload_n d_Mod_laysMended_102 rfl ?_
        refine z_iadd d_Mod_laysMended_103 ?_
        refine z_ldc (w := 1000000) d_Mod_laysMended_104 k_Mod_158 (by decide) ?_
        refine j_iload d_Mod_laysMended_106 rfl ?_
        refine s_call2 d_Mod_laysMended_108 c_Mod_387 (Nat.le_of_ble_eq_true rfl) (t_Mod_lesser (by first | omega | exact hw _ | exact hx _ _ | assumption) (by first | omega | exact hw _ | exact hx _ _ | assumption) ?_)
        refine ms_least d_Mod_laysMended_111 (by omega) (by omega) ?_
        refine z_iinc d_Mod_laysMended_112 rfl (by decide) ?_
        show SJ _ _ _ _ [_, _, _, _, _] _ _ _ _ _
        refine j_goto (t := 31) d_Mod_laysMended_115 (by decide) ?_
        refine SJ.mask [true, true, true, true, false] ?_
        show SJ _ _ _ _ [_, _, _, _, none] _ _ _ _ _
        first
        | (exfalso; omega)
        | exact ih _ (by omega) _ _ rfl (by omega) (by omega) (fun p q e1 e2 e3 => by rw [up_ne (by omega)]; exact za p q e1 e2 e3) (fun q e1 e2 => by by_cases e : q = b; (subst e; rw [up_eq]; exact ((MD_eq (by omega)).trans (mdS_def.trans (by first | rw [if_pos (by omega)] | rw [if_neg (by omega), if_pos (by omega)] | rw [if_neg (by omega), if_neg (by omega)]))).symm); (rw [up_ne (by omega)]; exact zb q e1 (by omega)))
      · refine z_if_eq (t := 94) d_Mod_laysMended_78 (by decide) (by first | omega | exact hw _ | exact hx _ _ | assumption) (fun _ => ?_) (fun h => absurd h (by decide))
        refine j_aload_n d_Mod_laysMended_94 rfl ?_
        refine mg_least f_Mod_82 d_Mod_laysMended_95 ?_
        refine z_bipush d_Mod_laysMended_98 (by decide) ?_
        refine j_iload_n d_Mod_laysMended_100 rfl ?_
        refine z_imul d_Mod_laysMended_101 ?_
        refine j_iload_n d_Mod_laysMended_102 rfl ?_
        refine z_iadd d_Mod_laysMended_103 ?_
        refine z_ldc (w := 1000000) d_Mod_laysMended_104 k_Mod_158 (by decide) ?_
        refine j_iload d_Mod_laysMended_106 rfl ?_
        refine s_call2 d_Mod_laysMended_108 c_Mod_387 (Nat.le_of_ble_eq_true rfl) (t_Mod_lesser (by first | omega | exact hw _ | exact hx _ _ | assumption) (by first | omega | exact hw _ | exact hx _ _ | assumption) ?_)
        refine ms_least d_Mod_laysMended_111 (by omega) (by omega) ?_
        refine z_iinc d_Mod_laysMended_112 rfl (by decide) ?_
        show SJ _ _ _ _ [_, _, _, _, _] _ _ _ _ _
        refine j_goto (t := 31) d_Mod_laysMended_115 (by decide) ?_
        refine SJ.mask [true, true, true, true, false] ?_
        show SJ _ _ _ _ [_, _, _, _, none] _ _ _ _ _
        first
        | (exfalso; omega)
        | exact ih _ (by omega) _ _ rfl (by omega) (by omega) (fun p q e1 e2 e3 => by rw [up_ne (by omega)]; exact za p q e1 e2 e3) (fun q e1 e2 => by by_cases e : q = b; (subst e; rw [up_eq]; exact ((MD_eq (by omega)).trans (mdS_def.trans (by first | rw [if_pos (by omega)] | rw [if_neg (by omega), if_pos (by omega)] | rw [if_neg (by omega), if_neg (by omega)]))).symm); (rw [up_ne (by omega)]; exact zb q e1 (by omega)))
theorem lp_laysMended {g : Bool} {d : Nat} {Q : List xM → Option Value → Prop} {i0 i6 i8 i9 i10 i13 i14 i18 i19 i20 i21 i22 i23 i24 i25 i27 i28 i33 i42 i43 i44 i45 i46 i47 i48 i51 i52 : Int} {x1 x2 x3 x4 x5 x7 x11 x12 x15 x16 x17 x26 x29 x30 x31 x32 x35 x36 x37 x38 x39 x40 x41 x49 x50 : Int → Int} (hk : KOK x2) (hcc : ∀ s p, 0 ≤ s → s < 6 → 0 ≤ p → p ≤ x2 0 → x35 (21 * s + p) = cA x2 s p) (hQ : ∀ z, Q (MM i0 i6 i8 i9 i10 i13 i14 i18 i19 i20 i21 i22 i23 i24 i25 i27 i28 i33 i42 i43 i44 i45 i46 i47 i48 i51 i52 x1 x2 x3 x4 x5 x7 x11 x12 x15 x16 x17 x26 x29 x30 x31 x32 z x35 x36 x37 x38 x39 x40 x41 x49 x50) (some (.int (ii (MD x2 0 (x2 0)))))) : ∀ (nn : Nat) (a : Int) (z : Int → Int), (a + 1).toNat = nn → -1 ≤ a → a ≤ x2 0 → (∀ p q, a < p → p ≤ q → q ≤ x2 0 → z (21 * p + q) = MD x2 p q) → SJ g m_Mod_laysMended (d + 4) 11 [some (.ref 0), some (.int (ii (x2 0))), some (.int (ii a)), none, none] [] (MM i0 i6 i8 i9 i10 i13 i14 i18 i19 i20 i21 i22 i23 i24 i25 i27 i28 i33 i42 i43 i44 i45 i46 i47 i48 i51 i52 x1 x2 x3 x4 x5 x7 x11 x12 x15 x16 x17 x26 x29 x30 x31 x32 z x35 x36 x37 x38 x39 x40 x41 x49 x50) 0 0 Q := by
  intro nn
  induction nn using Nat.strongRecOn with
  | ind nn ih =>
  intro a z hn a0 a1 za
  obtain ⟨⟨⟨hn0, hn1⟩, hs, hpg, hdp, hmo, hco, hfo⟩, hC, hz, hLw⟩ := id hk
  have f0 := hfo.1
  have f1 : x2 25 ≤ 5 := by omega
  clear hLw
  refine j_iload_n d_Mod_laysMended_11 rfl ?_
  refine z_if_lt (t := 124) d_Mod_laysMended_12 (by decide) (by first | omega | exact hw _ | exact hx _ _ | assumption) (fun h12 => ?_) (fun h12 => ?_)
  · refine j_aload_n d_Mod_laysMended_124 rfl ?_
    refine z_iconst d_Mod_laysMended_125 ?_
    refine j_iload_n d_Mod_laysMended_126 rfl ?_
    refine v_call2 d_Mod_laysMended_127 c_Mod_384 rfl ⟨_, rfl, rfl⟩ (Nat.le_of_ble_eq_true rfl) (t_Mod_leastOf (by omega) (by omega) (by omega) (by omega) ?_)
    exact z_iret rfl d_Mod_laysMended_130 (za 0 (x2 0) (by omega) (by omega) (by omega)) (hQ z)
  · refine j_aload_n d_Mod_laysMended_15 rfl ?_
    refine mg_least f_Mod_82 d_Mod_laysMended_16 ?_
    refine z_bipush d_Mod_laysMended_19 (by decide) ?_
    refine j_iload_n d_Mod_laysMended_21 rfl ?_
    refine z_imul d_Mod_laysMended_22 ?_
    refine j_iload_n d_Mod_laysMended_23 rfl ?_
    refine z_iadd d_Mod_laysMended_24 ?_
    refine z_iconst d_Mod_laysMended_25 ?_
    refine ms_least d_Mod_laysMended_26 (by omega) (by omega) ?_
    refine j_iload_n d_Mod_laysMended_27 rfl ?_
    refine z_iconst d_Mod_laysMended_28 ?_
    refine z_iadd d_Mod_laysMended_29 ?_
    refine j_istore_n d_Mod_laysMended_30 (by decide) ?_
    show SJ _ _ _ _ [_, _, _, _, _] _ _ _ _ _
    refine lp_laysMended2 hk hcc (by omega) (by omega) (fun z2 h2 => ?_) _ (a + 1) _ rfl (by omega) (by omega) (fun p q e1 e2 e3 => by rw [up_ne (by omega)]; exact za p q e1 e2 e3) (fun q e1 e2 => by rw [show q = a by omega, up_eq, MD_self])
    exact ih _ (by omega) _ _ rfl (by omega) (by omega) h2
theorem t_Mod_laysMended {g : Bool} {d : Nat} {Q : List xM → Option Value → Prop} {i0 i6 i8 i9 i10 i13 i14 i18 i19 i20 i21 i22 i23 i24 i25 i27 i28 i33 i42 i43 i44 i45 i46 i47 i48 i51 i52 : Int} {x1 x2 x3 x4 x5 x7 x11 x12 x15 x16 x17 x26 x29 x30 x31 x32 x34 x35 x36 x37 x38 x39 x40 x41 x49 x50 : Int → Int} (hk : KOK x2) (hQ : ∀ z4 z5, ∀ j22 j23 j24 j25 y26 y29 y30, Q (MM i0 i6 i8 i9 i10 i13 i14 i18 i19 i20 i21 j22 j23 j24 j25 i27 i28 i33 i42 i43 i44 i45 i46 i47 i48 i51 i52 x1 x2 x3 x4 x5 x7 x11 x12 x15 x16 x17 y26 y29 y30 x31 x32 z4 z5 x36 x37 x38 x39 x40 x41 x49 x50) (some (.int (ii (MD x2 0 (x2 0)))))) : CT g m_Mod_laysMended (d + 90) [.ref 0] (MM i0 i6 i8 i9 i10 i13 i14 i18 i19 i20 i21 i22 i23 i24 i25 i27 i28 i33 i42 i43 i44 i45 i46 i47 i48 i51 i52 x1 x2 x3 x4 x5 x7 x11 x12 x15 x16 x17 x26 x29 x30 x31 x32 x34 x35 x36 x37 x38 x39 x40 x41 x49 x50) 0 0 Q := by
  refine CT.of (by decide) (Nat.le_of_ble_eq_true rfl) ?_
  show SJ _ _ _ _ [some (.ref 0), none, none, none, none] [] _ _ _ _
  obtain ⟨⟨⟨hn0, hn1⟩, hs, hpg, hdp, hmo, hco, hfo⟩, hC, hz, hLw⟩ := id hk
  have f0 := hfo.1
  have f1 : x2 25 ≤ 5 := by omega
  clear hLw
  refine j_aload_n d_Mod_laysMended_0 rfl ?_
  refine v_call0 d_Mod_laysMended_1 c_Mod_390 rfl ⟨_, rfl, rfl⟩ (Nat.le_of_ble_eq_true rfl) (t_Mod_laysCosts hk (fun z5 hz5 j22 j23 j24 j25 y26 y29 y30 => ?_))
  refine j_aload_n d_Mod_laysMended_4 rfl ?_
  refine v_call0 d_Mod_laysMended_5 c_Mod_125 rfl ⟨_, rfl, rfl⟩ (Nat.le_of_ble_eq_true rfl) (t_Mod_length  ?_)
  refine j_istore_n d_Mod_laysMended_8 (by decide) ?_
  show SJ _ _ _ _ [_, _, _, _, _] _ _ _ _ _
  refine j_iload_n d_Mod_laysMended_9 rfl ?_
  refine j_istore_n d_Mod_laysMended_10 (by decide) ?_
  show SJ _ _ _ _ [_, _, _, _, _] _ _ _ _ _
  exact lp_laysMended (d := d + 86) hk hz5 (fun z4 => hQ _ _ _ _ _ _ _ _ _) _ (x2 0) _ rfl (by omega) (by omega) (fun p q e1 e2 e3 => by omega)
theorem t_Mod_mend {g : Bool} {d : Nat} {Q : List xM → Option Value → Prop} {i0 i6 i8 i9 i10 i13 i14 i18 i19 i20 i21 i22 i23 i24 i25 i27 i28 i33 i42 i43 i44 i45 i46 i47 i48 i51 i52 : Int} {x1 x2 x3 x4 x5 x7 x11 x12 x15 x16 x17 x26 x29 x30 x31 x32 x34 x35 x36 x37 x38 x39 x40 x41 x49 x50 : Int → Int} (hk : KOK x2) {w : Int} (r1 : R32 w) (hnx : ¬ (0 ≤ w ∧ w ≤ 1) → Q (MM i0 i6 i8 i9 i10 i13 i14 i18 i19 i20 i21 i22 i23 i24 i25 i27 i28 i33 i42 i43 i44 i45 i46 i47 i48 i51 i52 x1 x2 x3 x4 x5 x7 x11 x12 x15 x16 x17 x26 x29 x30 x31 x32 x34 x35 x36 x37 x38 x39 x40 x41 x49 x50) (some (.int (ii (-1))))) (hQ : 0 ≤ w ∧ w ≤ 1 → ∀ z4 z5, ∀ j22 j23 j24 j25 y26 y29 y30, Q (MM i0 i6 i8 i9 i10 i13 i14 i18 i19 i20 i21 j22 j23 j24 j25 i27 i28 i33 i42 i43 i44 i45 i46 i47 i48 i51 i52 x1 x2 x3 x4 x5 x7 x11 x12 x15 x16 x17 y26 y29 y30 x31 x32 z4 z5 x36 x37 x38 x39 x40 x41 x49 x50) (some (.int (ii (mdR x2 w))))) : CT g m_Mod_mend (d + 91) [.ref 0, .int (ii w)] (MM i0 i6 i8 i9 i10 i13 i14 i18 i19 i20 i21 i22 i23 i24 i25 i27 i28 i33 i42 i43 i44 i45 i46 i47 i48 i51 i52 x1 x2 x3 x4 x5 x7 x11 x12 x15 x16 x17 x26 x29 x30 x31 x32 x34 x35 x36 x37 x38 x39 x40 x41 x49 x50) 0 0 Q := by
  refine CT.of (by decide) (Nat.le_of_ble_eq_true rfl) ?_
  show SJ _ _ _ _ [some (.ref 0), some (.int (ii w)), none] [] _ _ _ _
  obtain ⟨⟨⟨hn0, hn1⟩, hs, hpg, hdp, hmo, hco, hfo⟩, hC, hz, hLw⟩ := id hk
  have f0 := hfo.1
  have f1 : x2 25 ≤ 5 := by omega
  clear hLw
  refine j_iload_n d_Mod_mend_0 rfl ?_
  refine z_iconst d_Mod_mend_1 ?_
  refine z_iconst d_Mod_mend_2 ?_
  refine s_call3 d_Mod_mend_3 c_Mod_18 (Nat.le_of_ble_eq_true rfl) (t_Mod_lies (by first | omega | exact hw _ | exact hx _ _ | assumption) (by first | omega | exact hw _ | exact hx _ _ | assumption) (by first | omega | exact hw _ | exact hx _ _ | assumption) (fun h3 => ?_) (fun h3 => ?_))
  · refine z_if_ne (t := 11) d_Mod_mend_6 (by decide) (by first | omega | exact hw _ | exact hx _ _ | assumption) (fun _ => ?_) (fun h => absurd h (by decide))
    refine j_aload_n d_Mod_mend_11 rfl ?_
    refine v_call0 d_Mod_mend_12 c_Mod_399 rfl ⟨_, rfl, rfl⟩ (Nat.le_of_ble_eq_true rfl) (t_Mod_laysMended hk (fun z4 z5 j22 j23 j24 j25 y26 y29 y30 => ?_))
    have hM := MD_R (a := 0) (b := x2 0) hk (by omega) (by omega) (by omega)
    refine j_istore_n d_Mod_mend_15 (by decide) ?_
    show SJ _ _ _ _ [_, _, _] _ _ _ _ _
    refine j_iload_n d_Mod_mend_16 rfl ?_
    refine z_ldc (w := 1000000) d_Mod_mend_17 k_Mod_158 (by decide) ?_
    refine z_icmp_ne (t := 24) d_Mod_mend_19 (by decide) (by first | omega | exact hw _ | exact hx _ _ | assumption) (by first | omega | exact hw _ | exact hx _ _ | assumption) (fun h19 => ?_) (fun h19 => ?_)
    · refine j_iload_n d_Mod_mend_24 rfl ?_
      refine z_if_ne (t := 35) d_Mod_mend_25 (by decide) (by first | omega | exact hw _ | exact hx _ _ | assumption) (fun h25 => ?_) (fun h25 => ?_)
      · refine j_iload_n d_Mod_mend_35 rfl ?_
        refine z_bipush d_Mod_mend_36 (by decide) ?_
        refine z_irem d_Mod_mend_38 (by first | omega | exact hw _ | exact hx _ _ | assumption) (by first | omega | exact hw _ | exact hx _ _ | assumption) (by decide) ?_
        exact z_iret rfl d_Mod_mend_39 (by unfold mdR; rw [if_neg (by omega)]; first | rw [if_pos (by omega)] | rw [if_neg (by omega)]) (hQ (by omega) _ _ _ _ _ _ _ _ _)
      · refine j_iload_n d_Mod_mend_28 rfl ?_
        refine z_bipush d_Mod_mend_29 (by decide) ?_
        refine z_idiv d_Mod_mend_31 (by first | omega | exact hw _ | exact hx _ _ | assumption) (by first | omega | exact hw _ | exact hx _ _ | assumption) (by decide) ?_
        refine j_goto (t := 39) d_Mod_mend_32 (by decide) ?_
        exact z_iret rfl d_Mod_mend_39 (by unfold mdR; rw [if_neg (by omega)]; first | rw [if_pos (by omega)] | rw [if_neg (by omega)]) (hQ (by omega) _ _ _ _ _ _ _ _ _)
    · refine z_iconst d_Mod_mend_22 ?_
      exact z_iret rfl d_Mod_mend_23 (by unfold mdR; rw [if_pos (by omega)]) (hQ (by omega) _ _ _ _ _ _ _ _ _)
  · refine z_if_ne (t := 11) d_Mod_mend_6 (by decide) (by first | omega | exact hw _ | exact hx _ _ | assumption) (fun h => absurd h (by decide)) (fun _ => ?_)
    refine z_iconst d_Mod_mend_9 ?_
    exact z_iret rfl d_Mod_mend_10 rfl (hnx (by omega))
theorem t_Mod_compare {g : Bool} {d : Nat} {Q : List xM → Option Value → Prop} {i0 i6 i8 i9 i10 i13 i14 i18 i19 i20 i21 i22 i23 i24 i25 i27 i28 i33 i42 i43 i44 i45 i46 i47 i48 i51 i52 : Int} {x1 x2 x3 x4 x5 x7 x11 x12 x15 x16 x17 x26 x29 x30 x31 x32 x34 x35 x36 x37 x38 x39 x40 x41 x49 x50 : Int → Int} (hk : KOK x2) {w : Int} (r1 : R32 w) (hnx : ¬ (-1 ≤ w ∧ w < x2 24) → Q (MM i0 i6 i8 i9 i10 i13 i14 i18 i19 i20 i21 i22 i23 i24 i25 i27 i28 i33 i42 i43 i44 i45 i46 i47 i48 i51 i52 x1 x2 x3 x4 x5 x7 x11 x12 x15 x16 x17 x26 x29 x30 x31 x32 x34 x35 x36 x37 x38 x39 x40 x41 x49 x50) (some (.int (ii (-1))))) (hQ : -1 ≤ w ∧ w < x2 24 → ∀ z4 z5, ∀ j22 j23 j24 j25 y26 y29 y30, Q (MM i0 i6 i8 i9 i10 i13 i14 i18 i19 i20 i21 j22 j23 j24 j25 i27 i28 i33 i42 i43 i44 i45 i46 i47 i48 i51 i52 x1 x2 x3 x4 x5 x7 x11 x12 x15 x16 x17 y26 y29 y30 x31 x32 z4 z5 x36 x37 x38 x39 x40 x41 x49 x50) (some (.int (ii (mdR (up x2 25 w) 0))))) : CT g m_Mod_compare (d + 92) [.ref 0, .int (ii w)] (MM i0 i6 i8 i9 i10 i13 i14 i18 i19 i20 i21 i22 i23 i24 i25 i27 i28 i33 i42 i43 i44 i45 i46 i47 i48 i51 i52 x1 x2 x3 x4 x5 x7 x11 x12 x15 x16 x17 x26 x29 x30 x31 x32 x34 x35 x36 x37 x38 x39 x40 x41 x49 x50) 0 0 Q := by
  refine CT.of (by decide) (Nat.le_of_ble_eq_true rfl) ?_
  show SJ _ _ _ _ [some (.ref 0), some (.int (ii w)), none, none] [] _ _ _ _
  obtain ⟨⟨⟨hn0, hn1⟩, hs, hpg, hdp, hmo, hco, hfo⟩, hC, hz, hLw⟩ := id hk
  have f0 := hfo.1
  have f1 : x2 25 ≤ 5 := by omega
  clear hLw
  refine j_aload_n d_Mod_compare_0 rfl ?_
  refine j_iload_n d_Mod_compare_1 rfl ?_
  refine v_call1 d_Mod_compare_2 c_Mod_243 rfl ⟨_, rfl, rfl⟩ (Nat.le_of_ble_eq_true rfl) (t_Mod_isLaw (by first | omega | exact hw _ | exact hx _ _ | assumption) (by omega) (by omega) (fun h2 => ?_) (fun h2 => ?_))
  · refine z_if_ne (t := 10) d_Mod_compare_5 (by decide) (by first | omega | exact hw _ | exact hx _ _ | assumption) (fun _ => ?_) (fun h => absurd h (by decide))
    refine j_aload_n d_Mod_compare_10 rfl ?_
    refine mg_kept f_Mod_32 d_Mod_compare_11 ?_
    refine z_bipush d_Mod_compare_14 (by decide) ?_
    refine ml_kept d_Mod_compare_16 (by omega) (by omega) ?_
    refine j_istore_n d_Mod_compare_17 (by decide) ?_
    show SJ _ _ _ _ [_, _, _, _] _ _ _ _ _
    refine j_aload_n d_Mod_compare_18 rfl ?_
    refine mg_kept f_Mod_32 d_Mod_compare_19 ?_
    refine z_bipush d_Mod_compare_22 (by decide) ?_
    refine j_iload_n d_Mod_compare_24 rfl ?_
    refine ms_kept d_Mod_compare_25 (by omega) (by omega) ?_
    have hk2 : KOK (up x2 25 w) := KOK.force hk (by omega) (by omega)
    refine j_aload_n d_Mod_compare_26 rfl ?_
    refine z_iconst d_Mod_compare_27 ?_
    refine v_call1 d_Mod_compare_28 c_Mod_402 rfl ⟨_, rfl, rfl⟩ (Nat.le_of_ble_eq_true rfl) (t_Mod_mend (x2 := up x2 25 w) (w := 0) hk2 (by omega) (fun h28 => absurd h28 (by omega)) (fun _ z4 z5 j22 j23 j24 j25 y26 y29 y30 => ?_))
    refine j_istore_n d_Mod_compare_31 (by decide) ?_
    show SJ _ _ _ _ [_, _, _, _] _ _ _ _ _
    refine j_aload_n d_Mod_compare_32 rfl ?_
    refine mg_kept f_Mod_32 d_Mod_compare_33 ?_
    refine z_bipush d_Mod_compare_36 (by decide) ?_
    refine j_iload_n d_Mod_compare_38 rfl ?_
    refine ms_kept d_Mod_compare_39 (by omega) (by omega) ?_
    refine j_iload_n d_Mod_compare_40 rfl ?_
    rw [up_up, up_self]
    exact j_ireturn rfl d_Mod_compare_41 (hQ (by omega) _ _ _ _ _ _ _ _ _)
  · refine z_if_ne (t := 10) d_Mod_compare_5 (by decide) (by first | omega | exact hw _ | exact hx _ _ | assumption) (fun h => absurd h (by decide)) (fun _ => ?_)
    refine z_iconst d_Mod_compare_8 ?_
    exact z_iret rfl d_Mod_compare_9 rfl (hnx (by omega))
