def ME (g : Bool) (y : xY) (dd : Nat) (i0 i6 i8 i9 i10 i13 i14 i18 i19 i20 i21 i23 i25 i27 i28 i33 i42 i43 i44 i45 i46 i47 i48 i51 i52 : Int) (x1 x2 x3 x4 x5 x7 x11 x12 x15 x16 x17 x26 x31 x32 x34 x35 x36 x37 x38 x39 x40 x41 x49 x50 : Int → Int) (F : Int → Int → Int → EV) : Prop := ∀ (live go br v go2 br2 : Int) (z29 z30 : Int → Int) (Q : List xM → Option Value → Prop), F live go br = some (v, go2, br2) → (live = 0 ∨ live = 1) → (br = 0 ∨ br = 1) → (∀ y29 y30, Q (MM i0 i6 i8 i9 i10 i13 i14 i18 i19 i20 i21 go2 i23 br2 i25 i27 i28 i33 i42 i43 i44 i45 i46 i47 i48 i51 i52 x1 x2 x3 x4 x5 x7 x11 x12 x15 x16 x17 x26 y29 y30 x31 x32 x34 x35 x36 x37 x38 x39 x40 x41 x49 x50) (some (.long (ll v)))) → CT g y dd [.ref 0, .int (ii live)] (MM i0 i6 i8 i9 i10 i13 i14 i18 i19 i20 i21 go i23 br i25 i27 i28 i33 i42 i43 i44 i45 i46 i47 i48 i51 i52 x1 x2 x3 x4 x5 x7 x11 x12 x15 x16 x17 x26 z29 z30 x31 x32 x34 x35 x36 x37 x38 x39 x40 x41 x49 x50) 0 0 Q
def MB (g : Bool) (y : xY) (dd : Nat) (i0 i6 i8 i9 i10 i13 i14 i18 i19 i20 i21 i23 i25 i27 i28 i33 i42 i43 i44 i45 i46 i47 i48 i51 i52 : Int) (x1 x2 x3 x4 x5 x7 x11 x12 x15 x16 x17 x26 x31 x32 x34 x35 x36 x37 x38 x39 x40 x41 x49 x50 : Int → Int) (F : Int → Int → Int → EV) : Prop := ∀ (live go br v go2 br2 : Int) (z29 z30 : Int → Int) (Q : List xM → Option Value → Prop), F live go br = some (v, go2, br2) → (live = 0 ∨ live = 1) → (br = 0 ∨ br = 1) → (∀ y29 y30, Q (MM i0 i6 i8 i9 i10 i13 i14 i18 i19 i20 i21 go2 i23 br2 i25 i27 i28 i33 i42 i43 i44 i45 i46 i47 i48 i51 i52 x1 x2 x3 x4 x5 x7 x11 x12 x15 x16 x17 x26 y29 y30 x31 x32 x34 x35 x36 x37 x38 x39 x40 x41 x49 x50) (some (.int (ii v)))) → CT g y dd [.ref 0, .int (ii live)] (MM i0 i6 i8 i9 i10 i13 i14 i18 i19 i20 i21 go i23 br i25 i27 i28 i33 i42 i43 i44 i45 i46 i47 i48 i51 i52 x1 x2 x3 x4 x5 x7 x11 x12 x15 x16 x17 x26 z29 z30 x31 x32 x34 x35 x36 x37 x38 x39 x40 x41 x49 x50) 0 0 Q
theorem t_Mod_codeAt {g : Bool} {d : Nat} {Q : List xM → Option Value → Prop} {i0 i6 i8 i9 i10 i13 i14 i18 i19 i20 i21 i22 i23 i24 i25 i27 i28 i33 i42 i43 i44 i45 i46 i47 i48 i51 i52 : Int} {x1 x2 x3 x4 x5 x7 x11 x12 x15 x16 x17 x26 x29 x30 x31 x32 x34 x35 x36 x37 x38 x39 x40 x41 x49 x50 : Int → Int} (hC : ∀ k, 0 ≤ k → k < 2800 → 0 ≤ x2 (33 + k) ∧ x2 (33 + k) ≤ 400) (e0 : 0 ≤ i23) (e1 : i23 ≤ 2800) {k : Int} (k0 : 0 ≤ k) (k1 : k ≤ 2900) (hQ : Q (MM i0 i6 i8 i9 i10 i13 i14 i18 i19 i20 i21 i22 i23 i24 i25 i27 i28 i33 i42 i43 i44 i45 i46 i47 i48 i51 i52 x1 x2 x3 x4 x5 x7 x11 x12 x15 x16 x17 x26 x29 x30 x31 x32 x34 x35 x36 x37 x38 x39 x40 x41 x49 x50) (some (.int (ii (cdA x2 i23 k))))) : CT g m_Mod_codeAt d [.ref 0, .int (ii k)] (MM i0 i6 i8 i9 i10 i13 i14 i18 i19 i20 i21 i22 i23 i24 i25 i27 i28 i33 i42 i43 i44 i45 i46 i47 i48 i51 i52 x1 x2 x3 x4 x5 x7 x11 x12 x15 x16 x17 x26 x29 x30 x31 x32 x34 x35 x36 x37 x38 x39 x40 x41 x49 x50) 0 0 Q := by
  refine CT.of (by decide) (Nat.le_of_ble_eq_true rfl) ?_
  show SJ _ _ _ _ [some (.ref 0), some (.int (ii k))] [] _ _ _ _
  refine j_iload_n d_Mod_codeAt_0 rfl ?_
  refine j_aload_n d_Mod_codeAt_1 rfl ?_
  refine mg_goEnd f_Mod_246 d_Mod_codeAt_2 ?_
  refine z_icmp_ge (t := 20) d_Mod_codeAt_5 (by decide) (by first | omega | exact hw _ | exact hx _ _ | assumption) (by first | omega | exact hw _ | exact hx _ _ | assumption) (fun h5 => ?_) (fun h5 => ?_)
  · refine z_iconst d_Mod_codeAt_20 ?_
    exact z_iret rfl d_Mod_codeAt_21 (by unfold cdA; first | rw [if_pos (by omega)] | rw [if_neg (by omega)]) hQ
  · refine j_aload_n d_Mod_codeAt_8 rfl ?_
    refine mg_kept f_Mod_32 d_Mod_codeAt_9 ?_
    refine z_bipush d_Mod_codeAt_12 (by decide) ?_
    refine j_iload_n d_Mod_codeAt_14 rfl ?_
    refine z_iadd d_Mod_codeAt_15 ?_
    refine ml_kept d_Mod_codeAt_16 (by omega) (by omega) ?_
    refine j_goto (t := 21) d_Mod_codeAt_17 (by decide) ?_
    exact z_iret rfl d_Mod_codeAt_21 (by unfold cdA; first | rw [if_pos (by omega)] | rw [if_neg (by omega)]) hQ
theorem t_Mod_passes0 {g : Bool} {d : Nat} {Q : List xM → Option Value → Prop} {i0 i6 i8 i9 i10 i13 i14 i18 i19 i20 i21 i22 i23 i24 i25 i27 i28 i33 i42 i43 i44 i45 i46 i47 i48 i51 i52 : Int} {x1 x2 x3 x4 x5 x7 x11 x12 x15 x16 x17 x26 x29 x30 x31 x32 x34 x35 x36 x37 x38 x39 x40 x41 x49 x50 : Int → Int} (hC : ∀ k, 0 ≤ k → k < 2800 → 0 ≤ x2 (33 + k) ∧ x2 (33 + k) ≤ 400) (e0 : 0 ≤ i23) (e1 : i23 ≤ 2800) {c : Int} (k0 : 0 ≤ i22) (k1 : i22 ≤ 2900) (rc : R32 c) (ht : cdA x2 i23 i22 = c → Q (MM i0 i6 i8 i9 i10 i13 i14 i18 i19 i20 i21 (i22 + 1) i23 i24 i25 i27 i28 i33 i42 i43 i44 i45 i46 i47 i48 i51 i52 x1 x2 x3 x4 x5 x7 x11 x12 x15 x16 x17 x26 x29 x30 x31 x32 x34 x35 x36 x37 x38 x39 x40 x41 x49 x50) (some (.int (ii 1)))) (hf : ¬ cdA x2 i23 i22 = c → Q (MM i0 i6 i8 i9 i10 i13 i14 i18 i19 i20 i21 i22 i23 i24 i25 i27 i28 i33 i42 i43 i44 i45 i46 i47 i48 i51 i52 x1 x2 x3 x4 x5 x7 x11 x12 x15 x16 x17 x26 x29 x30 x31 x32 x34 x35 x36 x37 x38 x39 x40 x41 x49 x50) (some (.int (ii 0)))) : CT g m_Mod_passes0 (d + 1) [.ref 0, .int (ii c)] (MM i0 i6 i8 i9 i10 i13 i14 i18 i19 i20 i21 i22 i23 i24 i25 i27 i28 i33 i42 i43 i44 i45 i46 i47 i48 i51 i52 x1 x2 x3 x4 x5 x7 x11 x12 x15 x16 x17 x26 x29 x30 x31 x32 x34 x35 x36 x37 x38 x39 x40 x41 x49 x50) 0 0 Q := by
  refine CT.of (by decide) (Nat.le_of_ble_eq_true rfl) ?_
  show SJ _ _ _ _ [some (.ref 0), some (.int (ii c)), none] [] _ _ _ _
  refine j_aload_n d_Mod_passes0_0 rfl ?_
  refine j_aload_n d_Mod_passes0_1 rfl ?_
  refine mg_go f_Mod_249 d_Mod_passes0_2 ?_
  refine v_call1 d_Mod_passes0_5 c_Mod_252 rfl ⟨_, rfl, rfl⟩ (Nat.le_of_ble_eq_true rfl) (t_Mod_codeAt hC e0 e1 (by omega) (by omega) ?_)
  have hcr := cdA_R hC e1 k0
  refine j_iload_n d_Mod_passes0_8 rfl ?_
  refine z_icmp_ne (t := 16) d_Mod_passes0_9 (by decide) (by first | omega | exact hw _ | exact hx _ _ | assumption) (by first | omega | exact hw _ | exact hx _ _ | assumption) (fun h9 => ?_) (fun h9 => ?_)
  · refine z_iconst d_Mod_passes0_16 ?_
    refine j_istore_n d_Mod_passes0_17 (by decide) ?_
    show SJ _ _ _ _ [_, _, _] _ _ _ _ _
    refine j_iload_n d_Mod_passes0_18 rfl ?_
    refine z_if_eq (t := 32) d_Mod_passes0_19 (by decide) (by first | omega | exact hw _ | exact hx _ _ | assumption) (fun _ => ?_) (fun h => absurd h (by decide))
    refine j_iload_n d_Mod_passes0_32 rfl ?_
    exact z_zreturn rfl (Or.inl rfl) d_Mod_passes0_33 (hf (by first | omega | simp_all))
  · refine z_iconst d_Mod_passes0_12 ?_
    refine j_goto (t := 17) d_Mod_passes0_13 (by decide) ?_
    refine j_istore_n d_Mod_passes0_17 (by decide) ?_
    show SJ _ _ _ _ [_, _, _] _ _ _ _ _
    refine j_iload_n d_Mod_passes0_18 rfl ?_
    refine z_if_eq (t := 32) d_Mod_passes0_19 (by decide) (by first | omega | exact hw _ | exact hx _ _ | assumption) (fun h => absurd h (by decide)) (fun _ => ?_)
    refine j_aload_n d_Mod_passes0_22 rfl ?_
    refine j_dup d_Mod_passes0_23 rfl ?_
    refine mg_go f_Mod_249 d_Mod_passes0_24 ?_
    refine z_iconst d_Mod_passes0_27 ?_
    refine z_iadd d_Mod_passes0_28 ?_
    refine mp_go f_Mod_249 d_Mod_passes0_29 ?_
    refine j_iload_n d_Mod_passes0_32 rfl ?_
    exact z_zreturn rfl (Or.inr rfl) d_Mod_passes0_33 (ht (by first | omega | simp_all))
theorem t_Mod_sign {g : Bool} {d : Nat} {Q : List xM → Option Value → Prop} {mem : List xM} {c : Int} (hQ : Q mem (some (.int (ii (100 + c))))) : CT g m_Mod_sign d [.int (ii c)] mem 0 0 Q := by
  refine CT.of (by decide) (Nat.le_of_ble_eq_true rfl) ?_
  show SJ _ _ _ _ [some (.int (ii c))] [] _ _ _ _
  refine z_bipush d_Mod_sign_0 (by decide) ?_
  refine j_iload_n d_Mod_sign_2 rfl ?_
  refine z_iadd d_Mod_sign_3 ?_
  exact z_iret rfl d_Mod_sign_4 (by first | rfl | omega | simp_all) hQ
theorem t_Mod_bounded {g : Bool} {d : Nat} {Q : List xM → Option Value → Prop} {i0 i6 i8 i9 i10 i13 i14 i18 i19 i20 i21 i22 i23 i24 i25 i27 i28 i33 i42 i43 i44 i45 i46 i47 i48 i51 i52 : Int} {x1 x2 x3 x4 x5 x7 x11 x12 x15 x16 x17 x26 x29 x30 x31 x32 x34 x35 x36 x37 x38 x39 x40 x41 x49 x50 : Int → Int} {r live : Int} (r1 : R64 r) (hl : live = 0 ∨ live = 1) (hb : i24 = 0 ∨ i24 = 1) (hQ : ∀ p, p = bd live r i24 → Q (MM i0 i6 i8 i9 i10 i13 i14 i18 i19 i20 i21 i22 i23 p.2 i25 i27 i28 i33 i42 i43 i44 i45 i46 i47 i48 i51 i52 x1 x2 x3 x4 x5 x7 x11 x12 x15 x16 x17 x26 x29 x30 x31 x32 x34 x35 x36 x37 x38 x39 x40 x41 x49 x50) (some (.long (ll p.1)))) : CT g m_Mod_bounded d [.ref 0, .long (ll r), .int (ii live)] (MM i0 i6 i8 i9 i10 i13 i14 i18 i19 i20 i21 i22 i23 i24 i25 i27 i28 i33 i42 i43 i44 i45 i46 i47 i48 i51 i52 x1 x2 x3 x4 x5 x7 x11 x12 x15 x16 x17 x26 x29 x30 x31 x32 x34 x35 x36 x37 x38 x39 x40 x41 x49 x50) 0 0 Q := by
  refine CT.of (by decide) (Nat.le_of_ble_eq_true rfl) ?_
  show SJ _ _ _ _ [some (.ref 0), some (.long (ll r)), none, some (.int (ii live))] [] _ _ _ _
  refine j_iload_n d_Mod_bounded_0 rfl ?_
  refine z_if_eq (t := 25) d_Mod_bounded_1 (by decide) (by first | omega | exact hw _ | exact hx _ _ | assumption) (fun h1 => ?_) (fun h1 => ?_)
  · refine j_aload_n d_Mod_bounded_25 rfl ?_
    refine mg_broken f_Mod_259 d_Mod_bounded_26 ?_
    refine z_if_eq (t := 36) d_Mod_bounded_29 (by decide) (by first | omega | exact hw _ | exact hx _ _ | assumption) (fun h29 => ?_) (fun h29 => ?_)
    · refine j_lload_n d_Mod_bounded_36 rfl ?_
      first | exact j_lreturn rfl d_Mod_bounded_37 (hQ (0, 1) (by unfold bd; rw [if_pos (show live = 1 ∧ (1000000000 < r ∨ r < -1000000000) by omega)]; rfl)) | exact j_lreturn rfl d_Mod_bounded_37 (hQ (0, i24) (by unfold bd; rw [if_neg (show ¬ (live = 1 ∧ (1000000000 < r ∨ r < -1000000000)) by omega), if_pos (show i24 = 1 by omega)])) | exact j_lreturn rfl d_Mod_bounded_37 (hQ (r, i24) (by unfold bd; rw [if_neg (show ¬ (live = 1 ∧ (1000000000 < r ∨ r < -1000000000)) by omega), if_neg (show ¬ i24 = 1 by omega)])) | exact absurd h29 (by decide)
    · refine z_lconst (v := 0) d_Mod_bounded_32 (by decide) ?_
      refine j_goto (t := 37) d_Mod_bounded_33 (by decide) ?_
      first | exact j_lreturn rfl d_Mod_bounded_37 (hQ (0, 1) (by unfold bd; rw [if_pos (show live = 1 ∧ (1000000000 < r ∨ r < -1000000000) by omega)]; rfl)) | exact j_lreturn rfl d_Mod_bounded_37 (hQ (0, i24) (by unfold bd; rw [if_neg (show ¬ (live = 1 ∧ (1000000000 < r ∨ r < -1000000000)) by omega), if_pos (show i24 = 1 by omega)])) | exact j_lreturn rfl d_Mod_bounded_37 (hQ (r, i24) (by unfold bd; rw [if_neg (show ¬ (live = 1 ∧ (1000000000 < r ∨ r < -1000000000)) by omega), if_neg (show ¬ i24 = 1 by omega)])) | exact absurd h29 (by decide)
  · refine j_lload_n d_Mod_bounded_4 rfl ?_
    refine z_ldc2 (w := 1000000000) d_Mod_bounded_5 k_Mod_255 (by decide) ?_
    refine z_lcmp_gt (t := 20) d_Mod_bounded_8 d_Mod_bounded_9 (by decide) (by first | omega | exact hw _ | exact hx _ _ | assumption) (by first | omega | exact hw _ | exact hx _ _ | assumption) (fun h8 => ?_) (fun h8 => ?_)
    · refine j_aload_n d_Mod_bounded_20 rfl ?_
      refine z_iconst d_Mod_bounded_21 ?_
      refine mp_broken f_Mod_259 d_Mod_bounded_22 (by first | exact Or.inl rfl | exact Or.inr rfl | assumption | omega) ?_
      refine j_aload_n d_Mod_bounded_25 rfl ?_
      refine mg_broken f_Mod_259 d_Mod_bounded_26 ?_
      refine z_if_eq (t := 36) d_Mod_bounded_29 (by decide) (by first | omega | exact hw _ | exact hx _ _ | assumption) (fun h29 => ?_) (fun h29 => ?_)
      · refine j_lload_n d_Mod_bounded_36 rfl ?_
        first | exact j_lreturn rfl d_Mod_bounded_37 (hQ (0, 1) (by unfold bd; rw [if_pos (show live = 1 ∧ (1000000000 < r ∨ r < -1000000000) by omega)]; rfl)) | exact j_lreturn rfl d_Mod_bounded_37 (hQ (0, i24) (by unfold bd; rw [if_neg (show ¬ (live = 1 ∧ (1000000000 < r ∨ r < -1000000000)) by omega), if_pos (show i24 = 1 by omega)])) | exact j_lreturn rfl d_Mod_bounded_37 (hQ (r, i24) (by unfold bd; rw [if_neg (show ¬ (live = 1 ∧ (1000000000 < r ∨ r < -1000000000)) by omega), if_neg (show ¬ i24 = 1 by omega)])) | exact absurd h29 (by decide)
      · refine z_lconst (v := 0) d_Mod_bounded_32 (by decide) ?_
        refine j_goto (t := 37) d_Mod_bounded_33 (by decide) ?_
        first | exact j_lreturn rfl d_Mod_bounded_37 (hQ (0, 1) (by unfold bd; rw [if_pos (show live = 1 ∧ (1000000000 < r ∨ r < -1000000000) by omega)]; rfl)) | exact j_lreturn rfl d_Mod_bounded_37 (hQ (0, i24) (by unfold bd; rw [if_neg (show ¬ (live = 1 ∧ (1000000000 < r ∨ r < -1000000000)) by omega), if_pos (show i24 = 1 by omega)])) | exact j_lreturn rfl d_Mod_bounded_37 (hQ (r, i24) (by unfold bd; rw [if_neg (show ¬ (live = 1 ∧ (1000000000 < r ∨ r < -1000000000)) by omega), if_neg (show ¬ i24 = 1 by omega)])) | exact absurd h29 (by decide)
    · refine j_lload_n d_Mod_bounded_12 rfl ?_
      refine z_ldc2 (w := -1000000000) d_Mod_bounded_13 k_Mod_257 (by decide) ?_
      refine z_lcmp_ge (t := 25) d_Mod_bounded_16 d_Mod_bounded_17 (by decide) (by first | omega | exact hw _ | exact hx _ _ | assumption) (by first | omega | exact hw _ | exact hx _ _ | assumption) (fun h16 => ?_) (fun h16 => ?_)
      · refine j_aload_n d_Mod_bounded_25 rfl ?_
        refine mg_broken f_Mod_259 d_Mod_bounded_26 ?_
        refine z_if_eq (t := 36) d_Mod_bounded_29 (by decide) (by first | omega | exact hw _ | exact hx _ _ | assumption) (fun h29 => ?_) (fun h29 => ?_)
        · refine j_lload_n d_Mod_bounded_36 rfl ?_
          first | exact j_lreturn rfl d_Mod_bounded_37 (hQ (0, 1) (by unfold bd; rw [if_pos (show live = 1 ∧ (1000000000 < r ∨ r < -1000000000) by omega)]; rfl)) | exact j_lreturn rfl d_Mod_bounded_37 (hQ (0, i24) (by unfold bd; rw [if_neg (show ¬ (live = 1 ∧ (1000000000 < r ∨ r < -1000000000)) by omega), if_pos (show i24 = 1 by omega)])) | exact j_lreturn rfl d_Mod_bounded_37 (hQ (r, i24) (by unfold bd; rw [if_neg (show ¬ (live = 1 ∧ (1000000000 < r ∨ r < -1000000000)) by omega), if_neg (show ¬ i24 = 1 by omega)])) | exact absurd h29 (by decide)
        · refine z_lconst (v := 0) d_Mod_bounded_32 (by decide) ?_
          refine j_goto (t := 37) d_Mod_bounded_33 (by decide) ?_
          first | exact j_lreturn rfl d_Mod_bounded_37 (hQ (0, 1) (by unfold bd; rw [if_pos (show live = 1 ∧ (1000000000 < r ∨ r < -1000000000) by omega)]; rfl)) | exact j_lreturn rfl d_Mod_bounded_37 (hQ (0, i24) (by unfold bd; rw [if_neg (show ¬ (live = 1 ∧ (1000000000 < r ∨ r < -1000000000)) by omega), if_pos (show i24 = 1 by omega)])) | exact j_lreturn rfl d_Mod_bounded_37 (hQ (r, i24) (by unfold bd; rw [if_neg (show ¬ (live = 1 ∧ (1000000000 < r ∨ r < -1000000000)) by omega), if_neg (show ¬ i24 = 1 by omega)])) | exact absurd h29 (by decide)
      · refine j_aload_n d_Mod_bounded_20 rfl ?_
        refine z_iconst d_Mod_bounded_21 ?_
        refine mp_broken f_Mod_259 d_Mod_bounded_22 (by first | exact Or.inl rfl | exact Or.inr rfl | assumption | omega) ?_
        refine j_aload_n d_Mod_bounded_25 rfl ?_
        refine mg_broken f_Mod_259 d_Mod_bounded_26 ?_
        refine z_if_eq (t := 36) d_Mod_bounded_29 (by decide) (by first | omega | exact hw _ | exact hx _ _ | assumption) (fun h29 => ?_) (fun h29 => ?_)
        · refine j_lload_n d_Mod_bounded_36 rfl ?_
          first | exact j_lreturn rfl d_Mod_bounded_37 (hQ (0, 1) (by unfold bd; rw [if_pos (show live = 1 ∧ (1000000000 < r ∨ r < -1000000000) by omega)]; rfl)) | exact j_lreturn rfl d_Mod_bounded_37 (hQ (0, i24) (by unfold bd; rw [if_neg (show ¬ (live = 1 ∧ (1000000000 < r ∨ r < -1000000000)) by omega), if_pos (show i24 = 1 by omega)])) | exact j_lreturn rfl d_Mod_bounded_37 (hQ (r, i24) (by unfold bd; rw [if_neg (show ¬ (live = 1 ∧ (1000000000 < r ∨ r < -1000000000)) by omega), if_neg (show ¬ i24 = 1 by omega)])) | exact absurd h29 (by decide)
        · refine z_lconst (v := 0) d_Mod_bounded_32 (by decide) ?_
          refine j_goto (t := 37) d_Mod_bounded_33 (by decide) ?_
          first | exact j_lreturn rfl d_Mod_bounded_37 (hQ (0, 1) (by unfold bd; rw [if_pos (show live = 1 ∧ (1000000000 < r ∨ r < -1000000000) by omega)]; rfl)) | exact j_lreturn rfl d_Mod_bounded_37 (hQ (0, i24) (by unfold bd; rw [if_neg (show ¬ (live = 1 ∧ (1000000000 < r ∨ r < -1000000000)) by omega), if_pos (show i24 = 1 by omega)])) | exact j_lreturn rfl d_Mod_bounded_37 (hQ (r, i24) (by unfold bd; rw [if_neg (show ¬ (live = 1 ∧ (1000000000 < r ∨ r < -1000000000)) by omega), if_neg (show ¬ i24 = 1 by omega)])) | exact absurd h29 (by decide)
theorem t_Mod_orderValue {g : Bool} {d : Nat} {Q : List xM → Option Value → Prop} {i0 i6 i8 i9 i10 i13 i14 i18 i19 i20 i21 i22 i23 i24 i25 i27 i28 i33 i42 i43 i44 i45 i46 i47 i48 i51 i52 : Int} {x1 x2 x3 x4 x5 x7 x11 x12 x15 x16 x17 x26 x29 x30 x31 x32 x34 x35 x36 x37 x38 x39 x40 x41 x49 x50 : Int → Int} (hn0 : 0 ≤ x2 0) (hn1 : x2 0 ≤ 20) (hs : ∀ j, 0 ≤ j → j < x2 0 → 0 ≤ x2 (1 + j) ∧ x2 (1 + j) ≤ 11) {c k : Int} (r1 : R32 c) (r2 : R32 k) (hQ : ∀ y29 y30, Q (MM i0 i6 i8 i9 i10 i13 i14 i18 i19 i20 i21 i22 i23 i24 i25 i27 i28 i33 i42 i43 i44 i45 i46 i47 i48 i51 i52 x1 x2 x3 x4 x5 x7 x11 x12 x15 x16 x17 x26 y29 y30 x31 x32 x34 x35 x36 x37 x38 x39 x40 x41 x49 x50) (some (.int (ii (ow x2 i27 i28 c k))))) : CT g m_Mod_orderValue (d + 5) [.ref 0, .int (ii c), .int (ii k)] (MM i0 i6 i8 i9 i10 i13 i14 i18 i19 i20 i21 i22 i23 i24 i25 i27 i28 i33 i42 i43 i44 i45 i46 i47 i48 i51 i52 x1 x2 x3 x4 x5 x7 x11 x12 x15 x16 x17 x26 x29 x30 x31 x32 x34 x35 x36 x37 x38 x39 x40 x41 x49 x50) 0 0 Q := by
  refine CT.of (by decide) (Nat.le_of_ble_eq_true rfl) ?_
  show SJ _ _ _ _ [some (.ref 0), some (.int (ii c)), some (.int (ii k))] [] _ _ _ _
  refine j_iload_n d_Mod_orderValue_0 rfl ?_
  refine z_case (14) (fun h1_0 => ?_) (fun h1_0 => ?_)
  · refine z_tabIn (t := 44) (o := 43) d_Mod_orderValue_1 (by first | omega | exact hw _ | exact hx _ _ | assumption) (by omega) (by omega) (by rw [h1_0]; rfl) (by decide) ?_
    refine j_aload_n d_Mod_orderValue_44 rfl ?_
    refine j_iload_n d_Mod_orderValue_45 rfl ?_
    refine z_iconst d_Mod_orderValue_46 ?_
    refine v_call2 d_Mod_orderValue_47 c_Mod_285 rfl ⟨_, rfl, rfl⟩ (Nat.le_of_ble_eq_true rfl) (t_Mod_at r2 (by omega) hn0 hn1 hs (fun h47 => ?_) (fun h47 => ?_))
    · first | exact z_iret rfl d_Mod_orderValue_50 (by unfold ow; rw [if_pos (by omega), if_neg h47]) (hQ _ _) | exact z_iret rfl d_Mod_orderValue_50 (by subst_vars; simp [ow, h47]) (hQ _ _)
    · first | exact z_iret rfl d_Mod_orderValue_50 (by unfold ow; rw [if_pos (by omega), if_neg h47]) (hQ _ _) | exact z_iret rfl d_Mod_orderValue_50 (by subst_vars; simp [ow, h47]) (hQ _ _)
  refine z_case (15) (fun h1_1 => ?_) (fun h1_1 => ?_)
  · refine z_tabIn (t := 58) (o := 57) d_Mod_orderValue_1 (by first | omega | exact hw _ | exact hx _ _ | assumption) (by omega) (by omega) (by rw [h1_1]; rfl) (by decide) ?_
    refine j_aload_n d_Mod_orderValue_58 rfl ?_
    refine v_call0 d_Mod_orderValue_59 c_Mod_125 rfl ⟨_, rfl, rfl⟩ (Nat.le_of_ble_eq_true rfl) (t_Mod_length  ?_)
    exact z_iret rfl d_Mod_orderValue_62 (by unfold ow; (repeat rw [if_neg (by omega)]); rw [if_pos (by omega)]) (hQ _ _)
  refine z_case (16) (fun h1_2 => ?_) (fun h1_2 => ?_)
  · refine z_tabIn (t := 63) (o := 62) d_Mod_orderValue_1 (by first | omega | exact hw _ | exact hx _ _ | assumption) (by omega) (by omega) (by rw [h1_2]; rfl) (by decide) ?_
    refine j_aload_n d_Mod_orderValue_63 rfl ?_
    refine mg_kept f_Mod_32 d_Mod_orderValue_64 ?_
    refine z_bipush d_Mod_orderValue_67 (by decide) ?_
    refine ml_kept d_Mod_orderValue_69 (by omega) (by omega) ?_
    exact z_iret rfl d_Mod_orderValue_70 (by unfold ow; (repeat rw [if_neg (by omega)]); rw [if_pos (by omega)]) (hQ _ _)
  refine z_case (17) (fun h1_3 => ?_) (fun h1_3 => ?_)
  · refine z_tabIn (t := 71) (o := 70) d_Mod_orderValue_1 (by first | omega | exact hw _ | exact hx _ _ | assumption) (by omega) (by omega) (by rw [h1_3]; rfl) (by decide) ?_
    refine j_aload_n d_Mod_orderValue_71 rfl ?_
    refine mg_orderDone f_Mod_288 d_Mod_orderValue_72 ?_
    exact z_iret rfl d_Mod_orderValue_75 (by unfold ow; (repeat rw [if_neg (by omega)]); rw [if_pos (by omega)]) (hQ _ _)
  refine z_case (18) (fun h1_4 => ?_) (fun h1_4 => ?_)
  · refine z_tabIn (t := 76) (o := 75) d_Mod_orderValue_1 (by first | omega | exact hw _ | exact hx _ _ | assumption) (by omega) (by omega) (by rw [h1_4]; rfl) (by decide) ?_
    refine j_aload_n d_Mod_orderValue_76 rfl ?_
    refine mg_orderLatest f_Mod_291 d_Mod_orderValue_77 ?_
    exact z_iret rfl d_Mod_orderValue_80 (by unfold ow; (repeat rw [if_neg (by omega)]); rw [if_pos (by omega)]) (hQ _ _)
  refine z_case (19) (fun h1_5 => ?_) (fun h1_5 => ?_)
  · refine z_tabIn (t := 81) (o := 80) d_Mod_orderValue_1 (by first | omega | exact hw _ | exact hx _ _ | assumption) (by omega) (by omega) (by rw [h1_5]; rfl) (by decide) ?_
    refine j_aload_n d_Mod_orderValue_81 rfl ?_
    refine v_call0 d_Mod_orderValue_82 c_Mod_294 rfl ⟨_, rfl, rfl⟩ (Nat.le_of_ble_eq_true rfl) (t_Mod_looseMany hn0 hn1 hs ?_)
    exact z_iret rfl d_Mod_orderValue_85 (by unfold ow; (repeat rw [if_neg (by omega)]); exact lo_eq x29 x30) (hQ _ _)
  refine z_case (20) (fun h1_6 => ?_) (fun h1_6 => ?_)
  · refine z_tabIn (t := 51) (o := 50) d_Mod_orderValue_1 (by first | omega | exact hw _ | exact hx _ _ | assumption) (by omega) (by omega) (by rw [h1_6]; rfl) (by decide) ?_
    refine j_aload_n d_Mod_orderValue_51 rfl ?_
    refine j_iload_n d_Mod_orderValue_52 rfl ?_
    refine z_iconst d_Mod_orderValue_53 ?_
    refine v_call2 d_Mod_orderValue_54 c_Mod_285 rfl ⟨_, rfl, rfl⟩ (Nat.le_of_ble_eq_true rfl) (t_Mod_at r2 (by omega) hn0 hn1 hs (fun h54 => ?_) (fun h54 => ?_))
    · first | exact z_iret rfl d_Mod_orderValue_57 (by unfold ow; rw [if_neg (by omega), if_pos (by omega : c = 20), if_neg h54]) (hQ _ _) | exact z_iret rfl d_Mod_orderValue_57 (by subst_vars; simp [ow, h54]) (hQ _ _)
    · first | exact z_iret rfl d_Mod_orderValue_57 (by unfold ow; rw [if_neg (by omega), if_pos (by omega : c = 20), if_neg h54]) (hQ _ _) | exact z_iret rfl d_Mod_orderValue_57 (by subst_vars; simp [ow, h54]) (hQ _ _)
  refine z_tabOut (t := 81) d_Mod_orderValue_1 (by first | omega | exact hw _ | exact hx _ _ | assumption) (by omega) (by decide) ?_
  refine j_aload_n d_Mod_orderValue_81 rfl ?_
  refine v_call0 d_Mod_orderValue_82 c_Mod_294 rfl ⟨_, rfl, rfl⟩ (Nat.le_of_ble_eq_true rfl) (t_Mod_looseMany hn0 hn1 hs ?_)
  exact z_iret rfl d_Mod_orderValue_85 (by unfold ow; (repeat rw [if_neg (by omega)]); exact lo_eq x29 x30) (hQ _ _)
theorem t_Mod_partOf0 {g : Bool} {d : Nat} {Q : List xM → Option Value → Prop} {i0 i6 i8 i9 i10 i13 i14 i18 i19 i20 i21 i22 i23 i24 i27 i28 i33 i42 i43 i44 i45 i46 i47 i48 i51 i52 : Int} {x1 x2 x3 x4 x5 x7 x11 x12 x15 x16 x17 x26 x29 x30 x31 x32 x34 x35 x36 x37 x38 x39 x40 x41 x49 x50 : Int → Int} (hn0 : 0 ≤ x2 0) (hn1 : x2 0 ≤ 20) (hs : ∀ j, 0 ≤ j → j < x2 0 → 0 ≤ x2 (1 + j) ∧ x2 (1 + j) ≤ 11) (hC : ∀ k, 0 ≤ k → k < 2800 → 0 ≤ x2 (33 + k) ∧ x2 (33 + k) ≤ 400) (e0 : 0 ≤ i23) (e1 : i23 ≤ 2800) {F : Int → Int → Int → EV} (hS : ME g m_Mod_sumOf (d + 10) i0 i6 i8 i9 i10 i13 i14 i18 i19 i20 i21 i23 0 i27 i28 i33 i42 i43 i44 i45 i46 i47 i48 i51 i52 x1 x2 x3 x4 x5 x7 x11 x12 x15 x16 x17 x26 x31 x32 x34 x35 x36 x37 x38 x39 x40 x41 x49 x50 F) {live v go2 br2 : Int} (hF : pE (cdA x2 i23) (vlA x2) (wvM 0 x26 x2 i27 i28) 0 F live i22 i24 = some (v, go2, br2)) (hl : live = 0 ∨ live = 1) (hb : i24 = 0 ∨ i24 = 1) (hQ : ∀ y29 y30, Q (MM i0 i6 i8 i9 i10 i13 i14 i18 i19 i20 i21 go2 i23 br2 0 i27 i28 i33 i42 i43 i44 i45 i46 i47 i48 i51 i52 x1 x2 x3 x4 x5 x7 x11 x12 x15 x16 x17 x26 y29 y30 x31 x32 x34 x35 x36 x37 x38 x39 x40 x41 x49 x50) (some (.long (ll v)))) : CT g m_Mod_partOf (d + 11) [.ref 0, .int (ii live)] (MM i0 i6 i8 i9 i10 i13 i14 i18 i19 i20 i21 i22 i23 i24 0 i27 i28 i33 i42 i43 i44 i45 i46 i47 i48 i51 i52 x1 x2 x3 x4 x5 x7 x11 x12 x15 x16 x17 x26 x29 x30 x31 x32 x34 x35 x36 x37 x38 x39 x40 x41 x49 x50) 0 0 Q := by
  refine CT.of (by decide) (Nat.le_of_ble_eq_true rfl) ?_
  show SJ _ _ _ _ [some (.ref 0), some (.int (ii live)), none, none] [] _ _ _ _
  obtain ⟨g0, g1, hA, hB, hD⟩ := pE_inv hF
  have hcr := cdA_R hC e1 g0
  have hcl : cdA x2 i23 i22 = 0 ∨ i22 < 2800 := by
    by_cases q : i22 < 2800
    · exact Or.inr q
    · left; unfold cdA; rw [if_neg (by omega)]
  refine j_aload_n d_Mod_partOf_0 rfl ?_
  refine z_bipush d_Mod_partOf_1 (by decide) ?_
  refine s_call1 d_Mod_partOf_3 c_Mod_208 (Nat.le_of_ble_eq_true rfl) (t_Mod_sign  ?_)
  refine v_call1 d_Mod_partOf_6 c_Mod_273 rfl ⟨_, rfl, rfl⟩ (Nat.le_of_ble_eq_true rfl) (t_Mod_passes0 hC e0 e1 (by omega) (by omega) (by omega) (fun h6 => ?_) (fun h6 => ?_))
  · refine z_if_eq (t := 30) d_Mod_partOf_9 (by decide) (by first | omega | exact hw _ | exact hx _ _ | assumption) (fun h => absurd h (by decide)) (fun _ => ?_)
    obtain ⟨w, g2, b2, hS2, hg2, hw, hb2, rfl, rfl, rfl⟩ := Hd.out hA (by omega)
    refine j_aload_n d_Mod_partOf_12 rfl ?_
    refine j_iload_n d_Mod_partOf_13 rfl ?_
    refine v_call1 d_Mod_partOf_14 c_Mod_276 rfl ⟨_, rfl, rfl⟩ (Nat.le_of_ble_eq_true rfl) (hS live (i22 + 1) _ _ _ _ _ _ _ hS2 hl hb (fun y29 y30 => ?_))
    refine j_lstore_n d_Mod_partOf_17 (by decide) ?_
    show SJ _ _ _ _ [_, _, _, _] _ _ _ _ _
    refine j_aload_n d_Mod_partOf_18 rfl ?_
    refine j_dup d_Mod_partOf_19 rfl ?_
    refine mg_go f_Mod_249 d_Mod_partOf_20 ?_
    refine z_iconst d_Mod_partOf_23 ?_
    refine z_iadd d_Mod_partOf_24 ?_
    refine mp_go f_Mod_249 d_Mod_partOf_25 ?_
    refine j_lload_n d_Mod_partOf_28 rfl ?_
    exact j_lreturn rfl d_Mod_partOf_29 (hQ _ _)
  · refine z_if_eq (t := 30) d_Mod_partOf_9 (by decide) (by first | omega | exact hw _ | exact hx _ _ | assumption) (fun _ => ?_) (fun h => absurd h (by decide))
    obtain ⟨rfl, rfl, hd1, hd2, hd3⟩ := Hd.out hD (by omega) (by omega)
    refine j_aload_n d_Mod_partOf_30 rfl ?_
    refine j_aload_n d_Mod_partOf_31 rfl ?_
    refine mg_go f_Mod_249 d_Mod_partOf_32 ?_
    refine v_call1 d_Mod_partOf_35 c_Mod_252 rfl ⟨_, rfl, rfl⟩ (Nat.le_of_ble_eq_true rfl) (t_Mod_codeAt hC e0 e1 (by omega) (by omega) ?_)
    refine j_istore_n d_Mod_partOf_38 (by decide) ?_
    show SJ _ _ _ _ [_, _, _, _] _ _ _ _ _
    refine z_iconst d_Mod_partOf_39 ?_
    refine j_istore_n d_Mod_partOf_40 (by decide) ?_
    show SJ _ _ _ _ [_, _, _, _] _ _ _ _ _
    refine j_aload_n d_Mod_partOf_41 rfl ?_
    refine j_dup d_Mod_partOf_42 rfl ?_
    refine mg_go f_Mod_249 d_Mod_partOf_43 ?_
    refine z_iconst d_Mod_partOf_46 ?_
    refine z_iadd d_Mod_partOf_47 ?_
    refine mp_go f_Mod_249 d_Mod_partOf_48 ?_
    refine j_aload_n d_Mod_partOf_51 rfl ?_
    refine mg_inOrders f_Mod_279 d_Mod_partOf_52 ?_
    refine z_if_eq (t := 94) d_Mod_partOf_55 (by decide) (by first | omega | exact hw _ | exact hx _ _ | assumption) (fun _ => ?_) (fun h => absurd h (by decide))
    refine j_iload_n d_Mod_partOf_94 rfl ?_
    refine z_if_eq (t := 105) d_Mod_partOf_95 (by decide) (by first | omega | exact hw _ | exact hx _ _ | assumption) (fun h95 => ?_) (fun h95 => ?_)
    · refine z_lconst (v := 0) d_Mod_partOf_105 (by decide) ?_
      first | exact z_lret rfl d_Mod_partOf_106 (hd1 (by omega)).symm (hQ _ _) | (rw [show i22 + 1 + 1 = i22 + 2 by omega]; exact z_lret rfl d_Mod_partOf_106 (hd1 (by omega)).symm (hQ _ _))
    · refine j_aload_n d_Mod_partOf_98 rfl ?_
      refine mg_broken f_Mod_259 d_Mod_partOf_99 ?_
      refine z_if_eq (t := 107) d_Mod_partOf_102 (by decide) (by first | omega | exact hw _ | exact hx _ _ | assumption) (fun h102 => ?_) (fun h102 => ?_)
      · refine j_iload_n d_Mod_partOf_107 rfl ?_
        refine z_bipush d_Mod_partOf_108 (by decide) ?_
        refine z_icmp_ne (t := 130) d_Mod_partOf_110 (by decide) (by first | omega | exact hw _ | exact hx _ _ | assumption) (by first | omega | exact hw _ | exact hx _ _ | assumption) (fun h110 => ?_) (fun h110 => ?_)
        · refine j_aload_n d_Mod_partOf_130 rfl ?_
          refine mg_inOrders f_Mod_279 d_Mod_partOf_131 ?_
          refine z_if_eq (t := 147) d_Mod_partOf_134 (by decide) (by first | omega | exact hw _ | exact hx _ _ | assumption) (fun _ => ?_) (fun h => absurd h (by decide))
          obtain ⟨rq, rv, hv⟩ := hd3 (by omega) (by omega)
          rw [show (wvM 0 x26 x2 i27 i28) ((cdA x2 i23) i22) 0 = x26 ((cdA x2 i23) i22 - 9) by unfold wvM; rw [if_neg (by omega)]] at hv
          refine j_aload_n d_Mod_partOf_147 rfl ?_
          refine mg_asked f_Mod_67 d_Mod_partOf_148 ?_
          refine j_iload_n d_Mod_partOf_151 rfl ?_
          refine z_bipush d_Mod_partOf_152 (by decide) ?_
          refine z_isub d_Mod_partOf_154 ?_
          refine ml_asked d_Mod_partOf_155 (by omega) (by omega) ?_
          refine z_i2l d_Mod_partOf_156 (by first | omega | exact hw _ | exact hx _ _ | assumption) ?_
          first | exact z_lret rfl d_Mod_partOf_157 hv.symm (hQ _ _) | (rw [show i22 + 1 + 1 = i22 + 2 by omega]; exact z_lret rfl d_Mod_partOf_157 hv.symm (hQ _ _))
        · obtain ⟨rv, hv⟩ := hd2 (by omega) (by omega)
          rw [show vlA x2 i22 = x2 (2833 + (i22 + 1) - 1) by rw [vlA_at (by omega) (by omega)]; congr 1; omega] at hv
          refine j_aload_n d_Mod_partOf_113 rfl ?_
          refine mg_kept f_Mod_32 d_Mod_partOf_114 ?_
          refine z_sipush d_Mod_partOf_117 (by decide) ?_
          refine j_aload_n d_Mod_partOf_120 rfl ?_
          refine mg_go f_Mod_249 d_Mod_partOf_121 ?_
          refine z_iadd d_Mod_partOf_124 ?_
          refine z_iconst d_Mod_partOf_125 ?_
          refine z_isub d_Mod_partOf_126 ?_
          refine ml_kept d_Mod_partOf_127 (by omega) (by omega) ?_
          refine z_i2l d_Mod_partOf_128 (by first | omega | exact hw _ | exact hx _ _ | assumption) ?_
          exact z_lret rfl d_Mod_partOf_129 hv.symm (hQ _ _)
      · refine z_lconst (v := 0) d_Mod_partOf_105 (by decide) ?_
        first | exact z_lret rfl d_Mod_partOf_106 (hd1 (by omega)).symm (hQ _ _) | (rw [show i22 + 1 + 1 = i22 + 2 by omega]; exact z_lret rfl d_Mod_partOf_106 (hd1 (by omega)).symm (hQ _ _))
theorem t_Mod_partOf1 {g : Bool} {d : Nat} {Q : List xM → Option Value → Prop} {i0 i6 i8 i9 i10 i13 i14 i18 i19 i20 i21 i22 i23 i24 i27 i28 i33 i42 i43 i44 i45 i46 i47 i48 i51 i52 : Int} {x1 x2 x3 x4 x5 x7 x11 x12 x15 x16 x17 x26 x29 x30 x31 x32 x34 x35 x36 x37 x38 x39 x40 x41 x49 x50 : Int → Int} (hn0 : 0 ≤ x2 0) (hn1 : x2 0 ≤ 20) (hs : ∀ j, 0 ≤ j → j < x2 0 → 0 ≤ x2 (1 + j) ∧ x2 (1 + j) ≤ 11) (hC : ∀ k, 0 ≤ k → k < 2800 → 0 ≤ x2 (33 + k) ∧ x2 (33 + k) ≤ 400) (e0 : 0 ≤ i23) (e1 : i23 ≤ 2800) {F : Int → Int → Int → EV} (hS : ME g m_Mod_sumOf (d + 10) i0 i6 i8 i9 i10 i13 i14 i18 i19 i20 i21 i23 1 i27 i28 i33 i42 i43 i44 i45 i46 i47 i48 i51 i52 x1 x2 x3 x4 x5 x7 x11 x12 x15 x16 x17 x26 x31 x32 x34 x35 x36 x37 x38 x39 x40 x41 x49 x50 F) {live v go2 br2 : Int} (hF : pE (cdA x2 i23) (vlA x2) (wvM 1 x26 x2 i27 i28) 1 F live i22 i24 = some (v, go2, br2)) (hl : live = 0 ∨ live = 1) (hb : i24 = 0 ∨ i24 = 1) (hQ : ∀ y29 y30, Q (MM i0 i6 i8 i9 i10 i13 i14 i18 i19 i20 i21 go2 i23 br2 1 i27 i28 i33 i42 i43 i44 i45 i46 i47 i48 i51 i52 x1 x2 x3 x4 x5 x7 x11 x12 x15 x16 x17 x26 y29 y30 x31 x32 x34 x35 x36 x37 x38 x39 x40 x41 x49 x50) (some (.long (ll v)))) : CT g m_Mod_partOf (d + 11) [.ref 0, .int (ii live)] (MM i0 i6 i8 i9 i10 i13 i14 i18 i19 i20 i21 i22 i23 i24 1 i27 i28 i33 i42 i43 i44 i45 i46 i47 i48 i51 i52 x1 x2 x3 x4 x5 x7 x11 x12 x15 x16 x17 x26 x29 x30 x31 x32 x34 x35 x36 x37 x38 x39 x40 x41 x49 x50) 0 0 Q := by
  refine CT.of (by decide) (Nat.le_of_ble_eq_true rfl) ?_
  show SJ _ _ _ _ [some (.ref 0), some (.int (ii live)), none, none] [] _ _ _ _
  obtain ⟨g0, g1, hA, hB, hD⟩ := pE_inv hF
  have hcr := cdA_R hC e1 g0
  have hcl : cdA x2 i23 i22 = 0 ∨ i22 < 2800 := by
    by_cases q : i22 < 2800
    · exact Or.inr q
    · left; unfold cdA; rw [if_neg (by omega)]
  refine j_aload_n d_Mod_partOf_0 rfl ?_
  refine z_bipush d_Mod_partOf_1 (by decide) ?_
  refine s_call1 d_Mod_partOf_3 c_Mod_208 (Nat.le_of_ble_eq_true rfl) (t_Mod_sign  ?_)
  refine v_call1 d_Mod_partOf_6 c_Mod_273 rfl ⟨_, rfl, rfl⟩ (Nat.le_of_ble_eq_true rfl) (t_Mod_passes0 hC e0 e1 (by omega) (by omega) (by omega) (fun h6 => ?_) (fun h6 => ?_))
  · refine z_if_eq (t := 30) d_Mod_partOf_9 (by decide) (by first | omega | exact hw _ | exact hx _ _ | assumption) (fun h => absurd h (by decide)) (fun _ => ?_)
    obtain ⟨w, g2, b2, hS2, hg2, hw, hb2, rfl, rfl, rfl⟩ := Hd.out hA (by omega)
    refine j_aload_n d_Mod_partOf_12 rfl ?_
    refine j_iload_n d_Mod_partOf_13 rfl ?_
    refine v_call1 d_Mod_partOf_14 c_Mod_276 rfl ⟨_, rfl, rfl⟩ (Nat.le_of_ble_eq_true rfl) (hS live (i22 + 1) _ _ _ _ _ _ _ hS2 hl hb (fun y29 y30 => ?_))
    refine j_lstore_n d_Mod_partOf_17 (by decide) ?_
    show SJ _ _ _ _ [_, _, _, _] _ _ _ _ _
    refine j_aload_n d_Mod_partOf_18 rfl ?_
    refine j_dup d_Mod_partOf_19 rfl ?_
    refine mg_go f_Mod_249 d_Mod_partOf_20 ?_
    refine z_iconst d_Mod_partOf_23 ?_
    refine z_iadd d_Mod_partOf_24 ?_
    refine mp_go f_Mod_249 d_Mod_partOf_25 ?_
    refine j_lload_n d_Mod_partOf_28 rfl ?_
    exact j_lreturn rfl d_Mod_partOf_29 (hQ _ _)
  · refine z_if_eq (t := 30) d_Mod_partOf_9 (by decide) (by first | omega | exact hw _ | exact hx _ _ | assumption) (fun _ => ?_) (fun h => absurd h (by decide))
    refine j_aload_n d_Mod_partOf_30 rfl ?_
    refine j_aload_n d_Mod_partOf_31 rfl ?_
    refine mg_go f_Mod_249 d_Mod_partOf_32 ?_
    refine v_call1 d_Mod_partOf_35 c_Mod_252 rfl ⟨_, rfl, rfl⟩ (Nat.le_of_ble_eq_true rfl) (t_Mod_codeAt hC e0 e1 (by omega) (by omega) ?_)
    refine j_istore_n d_Mod_partOf_38 (by decide) ?_
    show SJ _ _ _ _ [_, _, _, _] _ _ _ _ _
    refine z_iconst d_Mod_partOf_39 ?_
    refine j_istore_n d_Mod_partOf_40 (by decide) ?_
    show SJ _ _ _ _ [_, _, _, _] _ _ _ _ _
    refine j_aload_n d_Mod_partOf_41 rfl ?_
    refine j_dup d_Mod_partOf_42 rfl ?_
    refine mg_go f_Mod_249 d_Mod_partOf_43 ?_
    refine z_iconst d_Mod_partOf_46 ?_
    refine z_iadd d_Mod_partOf_47 ?_
    refine mp_go f_Mod_249 d_Mod_partOf_48 ?_
    refine j_aload_n d_Mod_partOf_51 rfl ?_
    refine mg_inOrders f_Mod_279 d_Mod_partOf_52 ?_
    refine z_if_eq (t := 94) d_Mod_partOf_55 (by decide) (by first | omega | exact hw _ | exact hx _ _ | assumption) (fun h => absurd h (by decide)) (fun _ => ?_)
    refine j_iload_n d_Mod_partOf_58 rfl ?_
    refine z_bipush d_Mod_partOf_59 (by decide) ?_
    refine z_icmp_eq (t := 70) d_Mod_partOf_61 (by decide) (by first | omega | exact hw _ | exact hx _ _ | assumption) (by first | omega | exact hw _ | exact hx _ _ | assumption) (fun h61 => ?_) (fun h61 => ?_)
    · obtain ⟨k0, kl, rfl, rfl, hd1, hd2⟩ := Hd.out hB (by omega) (by omega)
      have k1 : rgo (x2 (2833 + (i22 + 1))) := by rw [vlA_at (by omega) (by omega)] at k0; exact k0
      refine j_aload_n d_Mod_partOf_70 rfl ?_
      refine mg_kept f_Mod_32 d_Mod_partOf_71 ?_
      refine z_sipush d_Mod_partOf_74 (by decide) ?_
      refine j_aload_n d_Mod_partOf_77 rfl ?_
      refine mg_go f_Mod_249 d_Mod_partOf_78 ?_
      refine z_iadd d_Mod_partOf_81 ?_
      refine ml_kept d_Mod_partOf_82 (by omega) (by omega) ?_
      refine j_istore_n d_Mod_partOf_83 (by decide) ?_
      show SJ _ _ _ _ [_, _, _, _] _ _ _ _ _
      refine j_aload_n d_Mod_partOf_84 rfl ?_
      refine j_dup d_Mod_partOf_85 rfl ?_
      refine mg_go f_Mod_249 d_Mod_partOf_86 ?_
      refine z_iconst d_Mod_partOf_89 ?_
      refine z_iadd d_Mod_partOf_90 ?_
      refine mp_go f_Mod_249 d_Mod_partOf_91 ?_
      refine j_iload_n d_Mod_partOf_94 rfl ?_
      refine z_if_eq (t := 105) d_Mod_partOf_95 (by decide) (by first | omega | exact hw _ | exact hx _ _ | assumption) (fun h95 => ?_) (fun h95 => ?_)
      · refine z_lconst (v := 0) d_Mod_partOf_105 (by decide) ?_
        first | exact z_lret rfl d_Mod_partOf_106 (hd1 (by omega)).symm (hQ _ _) | (rw [show i22 + 1 + 1 = i22 + 2 by omega]; exact z_lret rfl d_Mod_partOf_106 (hd1 (by omega)).symm (hQ _ _))
      · refine j_aload_n d_Mod_partOf_98 rfl ?_
        refine mg_broken f_Mod_259 d_Mod_partOf_99 ?_
        refine z_if_eq (t := 107) d_Mod_partOf_102 (by decide) (by first | omega | exact hw _ | exact hx _ _ | assumption) (fun h102 => ?_) (fun h102 => ?_)
        · refine j_iload_n d_Mod_partOf_107 rfl ?_
          refine z_bipush d_Mod_partOf_108 (by decide) ?_
          refine z_icmp_ne (t := 130) d_Mod_partOf_110 (by decide) (by first | omega | exact hw _ | exact hx _ _ | assumption) (by first | omega | exact hw _ | exact hx _ _ | assumption) (fun _ => ?_) (fun hq => by exfalso; omega)
          refine j_aload_n d_Mod_partOf_130 rfl ?_
          refine mg_inOrders f_Mod_279 d_Mod_partOf_131 ?_
          refine z_if_eq (t := 147) d_Mod_partOf_134 (by decide) (by first | omega | exact hw _ | exact hx _ _ | assumption) (fun h => absurd h (by decide)) (fun _ => ?_)
          obtain ⟨rv, hv⟩ := hd2 (by omega)
          rw [show (wvM 1 x26 x2 i27 i28) ((cdA x2 i23) i22) (vlA x2 (i22 + 1)) = ow x2 i27 i28 ((cdA x2 i23) i22) (x2 (2833 + (i22 + 1))) by rw [vlA_at (by omega) (by omega)]; unfold wvM; rw [if_pos rfl]] at hv
          refine j_aload_n d_Mod_partOf_137 rfl ?_
          refine j_iload_n d_Mod_partOf_138 rfl ?_
          refine j_iload_n d_Mod_partOf_139 rfl ?_
          refine v_call2 d_Mod_partOf_140 c_Mod_282 rfl ⟨_, rfl, rfl⟩ (Nat.le_of_ble_eq_true rfl) (t_Mod_orderValue hn0 hn1 hs (by omega) (by omega) (fun y29 y30 => ?_))
          refine z_i2l d_Mod_partOf_143 (by first | omega | exact hw _ | exact hx _ _ | assumption) ?_
          refine j_goto (t := 157) d_Mod_partOf_144 (by decide) ?_
          first | exact z_lret rfl d_Mod_partOf_157 hv.symm (hQ _ _) | (rw [show i22 + 1 + 1 = i22 + 2 by omega]; exact z_lret rfl d_Mod_partOf_157 hv.symm (hQ _ _))
        · refine z_lconst (v := 0) d_Mod_partOf_105 (by decide) ?_
          first | exact z_lret rfl d_Mod_partOf_106 (hd1 (by omega)).symm (hQ _ _) | (rw [show i22 + 1 + 1 = i22 + 2 by omega]; exact z_lret rfl d_Mod_partOf_106 (hd1 (by omega)).symm (hQ _ _))
    · refine j_iload_n d_Mod_partOf_64 rfl ?_
      refine z_bipush d_Mod_partOf_65 (by decide) ?_
      refine z_icmp_ne (t := 94) d_Mod_partOf_67 (by decide) (by first | omega | exact hw _ | exact hx _ _ | assumption) (by first | omega | exact hw _ | exact hx _ _ | assumption) (fun h67 => ?_) (fun h67 => ?_)
      · obtain ⟨rfl, rfl, hd1, hd2, hd3⟩ := Hd.out hD (by omega) (by omega)
        refine j_iload_n d_Mod_partOf_94 rfl ?_
        refine z_if_eq (t := 105) d_Mod_partOf_95 (by decide) (by first | omega | exact hw _ | exact hx _ _ | assumption) (fun h95 => ?_) (fun h95 => ?_)
        · refine z_lconst (v := 0) d_Mod_partOf_105 (by decide) ?_
          first | exact z_lret rfl d_Mod_partOf_106 (hd1 (by omega)).symm (hQ _ _) | (rw [show i22 + 1 + 1 = i22 + 2 by omega]; exact z_lret rfl d_Mod_partOf_106 (hd1 (by omega)).symm (hQ _ _))
        · refine j_aload_n d_Mod_partOf_98 rfl ?_
          refine mg_broken f_Mod_259 d_Mod_partOf_99 ?_
          refine z_if_eq (t := 107) d_Mod_partOf_102 (by decide) (by first | omega | exact hw _ | exact hx _ _ | assumption) (fun h102 => ?_) (fun h102 => ?_)
          · refine j_iload_n d_Mod_partOf_107 rfl ?_
            refine z_bipush d_Mod_partOf_108 (by decide) ?_
            refine z_icmp_ne (t := 130) d_Mod_partOf_110 (by decide) (by first | omega | exact hw _ | exact hx _ _ | assumption) (by first | omega | exact hw _ | exact hx _ _ | assumption) (fun h110 => ?_) (fun h110 => ?_)
            · refine j_aload_n d_Mod_partOf_130 rfl ?_
              refine mg_inOrders f_Mod_279 d_Mod_partOf_131 ?_
              refine z_if_eq (t := 147) d_Mod_partOf_134 (by decide) (by first | omega | exact hw _ | exact hx _ _ | assumption) (fun h => absurd h (by decide)) (fun _ => ?_)
              obtain ⟨rq, rv, hv⟩ := hd3 (by omega) (by omega)
              rw [show (wvM 1 x26 x2 i27 i28) ((cdA x2 i23) i22) 0 = ow x2 i27 i28 ((cdA x2 i23) i22) 0 by unfold wvM; rw [if_pos rfl]] at hv
              refine j_aload_n d_Mod_partOf_137 rfl ?_
              refine j_iload_n d_Mod_partOf_138 rfl ?_
              refine j_iload_n d_Mod_partOf_139 rfl ?_
              refine v_call2 d_Mod_partOf_140 c_Mod_282 rfl ⟨_, rfl, rfl⟩ (Nat.le_of_ble_eq_true rfl) (t_Mod_orderValue hn0 hn1 hs (by omega) (by omega) (fun y29 y30 => ?_))
              refine z_i2l d_Mod_partOf_143 (by first | omega | exact hw _ | exact hx _ _ | assumption) ?_
              refine j_goto (t := 157) d_Mod_partOf_144 (by decide) ?_
              first | exact z_lret rfl d_Mod_partOf_157 hv.symm (hQ _ _) | (rw [show i22 + 1 + 1 = i22 + 2 by omega]; exact z_lret rfl d_Mod_partOf_157 hv.symm (hQ _ _))
            · obtain ⟨rv, hv⟩ := hd2 (by omega) (by omega)
              rw [show vlA x2 i22 = x2 (2833 + (i22 + 1) - 1) by rw [vlA_at (by omega) (by omega)]; congr 1; omega] at hv
              refine j_aload_n d_Mod_partOf_113 rfl ?_
              refine mg_kept f_Mod_32 d_Mod_partOf_114 ?_
              refine z_sipush d_Mod_partOf_117 (by decide) ?_
              refine j_aload_n d_Mod_partOf_120 rfl ?_
              refine mg_go f_Mod_249 d_Mod_partOf_121 ?_
              refine z_iadd d_Mod_partOf_124 ?_
              refine z_iconst d_Mod_partOf_125 ?_
              refine z_isub d_Mod_partOf_126 ?_
              refine ml_kept d_Mod_partOf_127 (by omega) (by omega) ?_
              refine z_i2l d_Mod_partOf_128 (by first | omega | exact hw _ | exact hx _ _ | assumption) ?_
              exact z_lret rfl d_Mod_partOf_129 hv.symm (hQ _ _)
          · refine z_lconst (v := 0) d_Mod_partOf_105 (by decide) ?_
            first | exact z_lret rfl d_Mod_partOf_106 (hd1 (by omega)).symm (hQ _ _) | (rw [show i22 + 1 + 1 = i22 + 2 by omega]; exact z_lret rfl d_Mod_partOf_106 (hd1 (by omega)).symm (hQ _ _))
      · obtain ⟨k0, kl, rfl, rfl, hd1, hd2⟩ := Hd.out hB (by omega) (by omega)
        have k1 : rgo (x2 (2833 + (i22 + 1))) := by rw [vlA_at (by omega) (by omega)] at k0; exact k0
        refine j_aload_n d_Mod_partOf_70 rfl ?_
        refine mg_kept f_Mod_32 d_Mod_partOf_71 ?_
        refine z_sipush d_Mod_partOf_74 (by decide) ?_
        refine j_aload_n d_Mod_partOf_77 rfl ?_
        refine mg_go f_Mod_249 d_Mod_partOf_78 ?_
        refine z_iadd d_Mod_partOf_81 ?_
        refine ml_kept d_Mod_partOf_82 (by omega) (by omega) ?_
        refine j_istore_n d_Mod_partOf_83 (by decide) ?_
        show SJ _ _ _ _ [_, _, _, _] _ _ _ _ _
        refine j_aload_n d_Mod_partOf_84 rfl ?_
        refine j_dup d_Mod_partOf_85 rfl ?_
        refine mg_go f_Mod_249 d_Mod_partOf_86 ?_
        refine z_iconst d_Mod_partOf_89 ?_
        refine z_iadd d_Mod_partOf_90 ?_
        refine mp_go f_Mod_249 d_Mod_partOf_91 ?_
        refine j_iload_n d_Mod_partOf_94 rfl ?_
        refine z_if_eq (t := 105) d_Mod_partOf_95 (by decide) (by first | omega | exact hw _ | exact hx _ _ | assumption) (fun h95 => ?_) (fun h95 => ?_)
        · refine z_lconst (v := 0) d_Mod_partOf_105 (by decide) ?_
          first | exact z_lret rfl d_Mod_partOf_106 (hd1 (by omega)).symm (hQ _ _) | (rw [show i22 + 1 + 1 = i22 + 2 by omega]; exact z_lret rfl d_Mod_partOf_106 (hd1 (by omega)).symm (hQ _ _))
        · refine j_aload_n d_Mod_partOf_98 rfl ?_
          refine mg_broken f_Mod_259 d_Mod_partOf_99 ?_
          refine z_if_eq (t := 107) d_Mod_partOf_102 (by decide) (by first | omega | exact hw _ | exact hx _ _ | assumption) (fun h102 => ?_) (fun h102 => ?_)
          · refine j_iload_n d_Mod_partOf_107 rfl ?_
            refine z_bipush d_Mod_partOf_108 (by decide) ?_
            refine z_icmp_ne (t := 130) d_Mod_partOf_110 (by decide) (by first | omega | exact hw _ | exact hx _ _ | assumption) (by first | omega | exact hw _ | exact hx _ _ | assumption) (fun _ => ?_) (fun hq => by exfalso; omega)
            refine j_aload_n d_Mod_partOf_130 rfl ?_
            refine mg_inOrders f_Mod_279 d_Mod_partOf_131 ?_
            refine z_if_eq (t := 147) d_Mod_partOf_134 (by decide) (by first | omega | exact hw _ | exact hx _ _ | assumption) (fun h => absurd h (by decide)) (fun _ => ?_)
            obtain ⟨rv, hv⟩ := hd2 (by omega)
            rw [show (wvM 1 x26 x2 i27 i28) ((cdA x2 i23) i22) (vlA x2 (i22 + 1)) = ow x2 i27 i28 ((cdA x2 i23) i22) (x2 (2833 + (i22 + 1))) by rw [vlA_at (by omega) (by omega)]; unfold wvM; rw [if_pos rfl]] at hv
            refine j_aload_n d_Mod_partOf_137 rfl ?_
            refine j_iload_n d_Mod_partOf_138 rfl ?_
            refine j_iload_n d_Mod_partOf_139 rfl ?_
            refine v_call2 d_Mod_partOf_140 c_Mod_282 rfl ⟨_, rfl, rfl⟩ (Nat.le_of_ble_eq_true rfl) (t_Mod_orderValue hn0 hn1 hs (by omega) (by omega) (fun y29 y30 => ?_))
            refine z_i2l d_Mod_partOf_143 (by first | omega | exact hw _ | exact hx _ _ | assumption) ?_
            refine j_goto (t := 157) d_Mod_partOf_144 (by decide) ?_
            first | exact z_lret rfl d_Mod_partOf_157 hv.symm (hQ _ _) | (rw [show i22 + 1 + 1 = i22 + 2 by omega]; exact z_lret rfl d_Mod_partOf_157 hv.symm (hQ _ _))
          · refine z_lconst (v := 0) d_Mod_partOf_105 (by decide) ?_
            first | exact z_lret rfl d_Mod_partOf_106 (hd1 (by omega)).symm (hQ _ _) | (rw [show i22 + 1 + 1 = i22 + 2 by omega]; exact z_lret rfl d_Mod_partOf_106 (hd1 (by omega)).symm (hQ _ _))
