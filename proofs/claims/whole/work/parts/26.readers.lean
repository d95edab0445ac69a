theorem lp_readers {g : Bool} {d : Nat} {Q : List xM → Option Value → Prop} {i0 i6 i8 i9 i10 i13 i14 i18 i19 i20 i21 i27 i28 i33 i42 i43 i44 i45 i46 i47 i48 i51 : Int} {x1 x2 x3 x4 x5 x7 x11 x12 x15 x16 x17 x31 x32 x34 x35 x36 x37 x38 x39 x40 x41 x49 x50 : Int → Int} {seed n : Int} {R : (Int → Int) × Int × Int} (n1 : n ≤ 60) (hkk : ∀ K L al, KOK K → (∀ j, 22 ≤ j ∨ j < 0 → K j = x2 j) → (K, L, al) = R → ∀ j22 j23 j24 j25 y26 y29 y30, SJ g m_Mod_readers (d + 90) 85 [some (.ref 0), some (.int (ii seed)), some (.int (ii n)), some (.int (ii al)), none] [] (MM i0 i6 i8 i9 i10 i13 i14 i18 i19 i20 i21 j22 j23 j24 j25 i27 i28 i33 i42 i43 i44 i45 i46 i47 i48 i51 L x1 K x3 x4 x5 x7 x11 x12 x15 x16 x17 y26 y29 y30 x31 x32 x34 x35 x36 x37 x38 x39 x40 x41 x49 x50) 0 0 Q) : ∀ (nn : Nat) (k : Int) (al : Int) (K : Int → Int) (L : Int) (j22 : Int) (j23 : Int) (j24 : Int) (j25 : Int) (y26 : Int → Int) (y29 : Int → Int) (y30 : Int → Int), (n - k).toNat = nn → 0 ≤ k → k ≤ n → KOK K → (∀ j, 22 ≤ j ∨ j < 0 → K j = x2 j) → 0 ≤ L → L ≤ 1000003 → rdF (n - k).toNat K L al = R → SJ g m_Mod_readers (d + 90) 41 [some (.ref 0), some (.int (ii seed)), some (.int (ii n)), some (.int (ii al)), some (.int (ii k))] [] (MM i0 i6 i8 i9 i10 i13 i14 i18 i19 i20 i21 j22 j23 j24 j25 i27 i28 i33 i42 i43 i44 i45 i46 i47 i48 i51 L x1 K x3 x4 x5 x7 x11 x12 x15 x16 x17 y26 y29 y30 x31 x32 x34 x35 x36 x37 x38 x39 x40 x41 x49 x50) 0 0 Q := by
  intro nn
  induction nn using Nat.strongRecOn with
  | ind nn ih =>
  intro k al K L j22 j23 j24 j25 y26 y29 y30 hn k0 k1 hk hK l0 l1 hR
  obtain ⟨⟨⟨hn0, hn1⟩, hs, hpg, hdp, hmo, hco, hfo⟩, hT⟩ := id hk
  clear hT
  refine j_iload d_Mod_readers_41 rfl ?_
  refine j_iload_n d_Mod_readers_43 rfl ?_
  refine z_icmp_ge (t := 85) d_Mod_readers_44 (by decide) (by first | omega | exact hw _ | exact hx _ _ | assumption) (by first | omega | exact hw _ | exact hx _ _ | assumption) (fun h44 => ?_) (fun h44 => ?_)
  · refine SJ.mask [true, true, true, true, false] ?_
    show SJ _ _ _ _ [_, _, _, _, none] _ _ _ _ _
    first
    | (rw [if_neg (by omega)] at hR
       exact hkk _ _ _ hk hK hR _ _ _ _ _ _ _)
    | (rw [show (n - k).toNat = 0 by omega] at hR
       simp only [rdF] at hR
       exact hkk _ _ _ hk hK hR _ _ _ _ _ _ _)
  · rw [show (n - k).toNat = (n - (k + 1)).toNat + 1 by omega] at hR
    simp only [rdF] at hR
    refine j_aload_n d_Mod_readers_47 rfl ?_
    refine mg_kept f_Mod_32 d_Mod_readers_48 ?_
    refine z_bipush d_Mod_readers_51 (by decide) ?_
    refine ml_kept d_Mod_readers_53 (by omega) (by omega) ?_
    refine z_sipush d_Mod_readers_54 (by decide) ?_
    refine z_icmp_ge (t := 85) d_Mod_readers_57 (by decide) (by first | omega | exact hw _ | exact hx _ _ | assumption) (by first | omega | exact hw _ | exact hx _ _ | assumption) (fun h57 => ?_) (fun h57 => ?_)
    · refine SJ.mask [true, true, true, true, false] ?_
      show SJ _ _ _ _ [_, _, _, _, none] _ _ _ _ _
      first
      | (rw [if_neg (by omega)] at hR
         exact hkk _ _ _ hk hK hR _ _ _ _ _ _ _)
      | (rw [show (n - k).toNat = 0 by omega] at hR
         simp only [rdF] at hR
         exact hkk _ _ _ hk hK hR _ _ _ _ _ _ _)
    · rw [if_pos (by omega)] at hR
      obtain ⟨hk2, hK2⟩ := rdK_ok hk l0 (by omega)
      obtain ⟨-, hl2, -⟩ := rdA_ok hk l0
      obtain ⟨⟨⟨hn0b, hn1b⟩, hsb, -⟩, -⟩ := id hk2
      have hlr := lo_R (K := rdK K L) (a := 0) (b := rdK K L 0) (by omega) (by omega)
      refine j_aload_n d_Mod_readers_60 rfl ?_
      refine v_call0 d_Mod_readers_61 c_Mod_516 rfl ⟨_, rfl, rfl⟩ (Nat.le_of_ble_eq_true rfl) (t_Mod_readsPage hk l0 l1 (fun l22 l23 l24 l25 w26 w29 w30 => ?_))
      refine j_iload_n d_Mod_readers_64 rfl ?_
      refine j_aload_n d_Mod_readers_65 rfl ?_
      refine v_call0 d_Mod_readers_66 c_Mod_294 rfl ⟨_, rfl, rfl⟩ (Nat.le_of_ble_eq_true rfl) (t_Mod_looseMany hn0b hn1b hsb ?_)
      rw [lo_eq w29 w30]
      refine z_if_ne (t := 76) d_Mod_readers_69 (by decide) (by first | omega | exact hw _ | exact hx _ _ | assumption) (fun h69 => ?_) (fun h69 => ?_)
      · refine z_iconst d_Mod_readers_76 ?_
        refine z_iadd d_Mod_readers_77 ?_
        refine j_istore_n d_Mod_readers_78 (by decide) ?_
        show SJ _ _ _ _ [_, _, _, _, _] _ _ _ _ _
        refine z_iinc d_Mod_readers_79 rfl (by decide) ?_
        show SJ _ _ _ _ [_, _, _, _, _] _ _ _ _ _
        refine j_goto (t := 41) d_Mod_readers_82 (by decide) ?_
        first
        | (rw [if_pos (by omega)] at hR
           exact ih _ (by omega) _ _ _ _ _ _ _ _ _ _ _ rfl (by omega) (by omega) hk2 (fun j hj => by rw [hK2 j hj, hK j hj]) hl2.1 hl2.2 hR)
        | (rw [if_neg (by omega)] at hR
           exact ih _ (by omega) _ _ _ _ _ _ _ _ _ _ _ rfl (by omega) (by omega) hk2 (fun j hj => by rw [hK2 j hj, hK j hj]) hl2.1 hl2.2 hR)
      · refine z_iconst d_Mod_readers_72 ?_
        refine j_goto (t := 77) d_Mod_readers_73 (by decide) ?_
        refine z_iadd d_Mod_readers_77 ?_
        refine j_istore_n d_Mod_readers_78 (by decide) ?_
        show SJ _ _ _ _ [_, _, _, _, _] _ _ _ _ _
        refine z_iinc d_Mod_readers_79 rfl (by decide) ?_
        show SJ _ _ _ _ [_, _, _, _, _] _ _ _ _ _
        refine j_goto (t := 41) d_Mod_readers_82 (by decide) ?_
        first
        | (rw [if_pos (by omega)] at hR
           exact ih _ (by omega) _ _ _ _ _ _ _ _ _ _ _ rfl (by omega) (by omega) hk2 (fun j hj => by rw [hK2 j hj, hK j hj]) hl2.1 hl2.2 hR)
        | (rw [if_neg (by omega)] at hR
           exact ih _ (by omega) _ _ _ _ _ _ _ _ _ _ _ rfl (by omega) (by omega) hk2 (fun j hj => by rw [hK2 j hj, hK j hj]) hl2.1 hl2.2 hR)
theorem lp_readers2 {g : Bool} {d : Nat} {Q : List xM → Option Value → Prop} {i0 i6 i8 i9 i10 i13 i14 i18 i19 i20 i21 i22 i23 i24 i25 i27 i28 i33 i42 i43 i44 i45 i46 i47 i48 i51 i52 : Int} {x1 x2 x3 x4 x5 x7 x11 x12 x15 x16 x17 x26 x29 x30 x31 x32 x34 x35 x36 x37 x38 x39 x40 x41 x49 x50 : Int → Int} {al : Int} {seed n : Int} (hkk : SJ g m_Mod_readers (d + 90) 115 [some (.ref 0), some (.int (ii seed)), some (.int (ii n)), some (.int (ii al)), none] [] (MM i0 i6 i8 i9 i10 i13 i14 i18 i19 i20 i21 i22 i23 i24 i25 i27 i28 i33 i42 i43 i44 i45 i46 i47 i48 i51 i52 x1 x2 x3 x4 x5 x7 x11 x12 x15 x16 x17 x26 x29 x30 x31 x32 x34 x35 x36 x37 x38 x39 x40 x41 x49 (cpy x2 x50 0 0 22)) 0 0 Q) : ∀ (nn : Nat) (k : Int), (22 - k).toNat = nn → 0 ≤ k → k ≤ 22 → SJ g m_Mod_readers (d + 90) 88 [some (.ref 0), some (.int (ii seed)), some (.int (ii n)), some (.int (ii al)), some (.int (ii k))] [] (MM i0 i6 i8 i9 i10 i13 i14 i18 i19 i20 i21 i22 i23 i24 i25 i27 i28 i33 i42 i43 i44 i45 i46 i47 i48 i51 i52 x1 x2 x3 x4 x5 x7 x11 x12 x15 x16 x17 x26 x29 x30 x31 x32 x34 x35 x36 x37 x38 x39 x40 x41 x49 (cpy x2 x50 0 0 k)) 0 0 Q := by
  intro nn
  induction nn using Nat.strongRecOn with
  | ind nn ih =>
  intro k hn k0 k1
  refine j_iload d_Mod_readers_88 rfl ?_
  refine z_bipush d_Mod_readers_90 (by decide) ?_
  refine z_icmp_ge (t := 115) d_Mod_readers_92 (by decide) (by first | omega | exact hw _ | exact hx _ _ | assumption) (by first | omega | exact hw _ | exact hx _ _ | assumption) (fun h92 => ?_) (fun h92 => ?_)
  · have e : k = 22 := by omega
    subst e
    refine SJ.mask [true, true, true, true, false] ?_
    show SJ _ _ _ _ [_, _, _, _, none] _ _ _ _ _
    exact hkk
  · refine j_aload_n d_Mod_readers_95 rfl ?_
    refine mg_drawnMoved f_Mod_113 d_Mod_readers_96 ?_
    refine j_iload d_Mod_readers_99 rfl ?_
    refine j_aload_n d_Mod_readers_101 rfl ?_
    refine mg_kept f_Mod_32 d_Mod_readers_102 ?_
    refine j_iload d_Mod_readers_105 rfl ?_
    refine ml_kept d_Mod_readers_107 (by omega) (by omega) ?_
    refine ms_drawnMoved d_Mod_readers_108 (by omega) (by omega) ?_
    rw [cpy_s (sp := 0) (dp := 0) k0 (by simp) (by simp)]
    refine z_iinc d_Mod_readers_109 rfl (by decide) ?_
    show SJ _ _ _ _ [_, _, _, _, _] _ _ _ _ _
    refine j_goto (t := 88) d_Mod_readers_112 (by decide) ?_
    exact ih _ (by omega) _ rfl (by omega) (by omega)
theorem t_Mod_readers {g : Bool} {d : Nat} {Q : List xM → Option Value → Prop} {i0 i6 i8 i9 i10 i13 i14 i18 i19 i20 i21 i22 i23 i24 i25 i27 i28 i33 i42 i43 i44 i45 i46 i47 i48 i51 i52 : Int} {x1 x2 x3 x4 x5 x7 x11 x12 x15 x16 x17 x26 x29 x30 x31 x32 x34 x35 x36 x37 x38 x39 x40 x41 x49 x50 : Int → Int} (hk : KOK x2) {seed n : Int} (r1 : R32 seed) (r2 : R32 n) (hnx : ¬ ((0 ≤ seed ∧ seed ≤ 1000000) ∧ (1 ≤ n ∧ n ≤ 60)) → Q (MM (-1) i6 i8 i9 i10 i13 i14 i18 i19 i20 i21 i22 i23 i24 i25 i27 i28 i33 i42 i43 i44 i45 i46 i47 i48 i51 i52 (up x1 (0 - (-1)) (x1 (0 - (-1)) + 1)) x2 x3 x4 x5 x7 x11 x12 x15 x16 x17 x26 x29 x30 x31 x32 x34 x35 x36 x37 x38 x39 x40 x41 x49 x50) (some (.int (ii (-1))))) (hQ : (0 ≤ seed ∧ seed ≤ 1000000) ∧ (1 ≤ n ∧ n ≤ 60) → KOK (rdF n.toNat x2 seed 0).1 → ∀ j52 y5, ∀ j22 j23 j24 j25 y26 y29 y30, Q (MM 0 i6 i8 i9 i10 i13 i14 i18 i19 i20 i21 j22 j23 j24 j25 i27 i28 i33 i42 i43 i44 i45 i46 i47 i48 (lo (rdF n.toNat x2 seed 0).1 0 ((rdF n.toNat x2 seed 0).1 0)) j52 x1 x2 x3 x4 y5 x7 x11 x12 x15 x16 x17 y26 y29 y30 x31 x32 x34 x35 x36 x37 x38 x39 x40 x41 x49 (cpy (rdF n.toNat x2 seed 0).1 x50 0 0 22)) (some (.int (ii (rdF n.toNat x2 seed 0).2.2)))) : CT g m_Mod_readers (d + 90) [.ref 0, .int (ii seed), .int (ii n)] (MM i0 i6 i8 i9 i10 i13 i14 i18 i19 i20 i21 i22 i23 i24 i25 i27 i28 i33 i42 i43 i44 i45 i46 i47 i48 i51 i52 x1 x2 x3 x4 x5 x7 x11 x12 x15 x16 x17 x26 x29 x30 x31 x32 x34 x35 x36 x37 x38 x39 x40 x41 x49 x50) 0 0 Q := by
  refine CT.of (by decide) (Nat.le_of_ble_eq_true rfl) ?_
  show SJ _ _ _ _ [some (.ref 0), some (.int (ii seed)), some (.int (ii n)), none, none] [] _ _ _ _
  obtain ⟨⟨⟨hn0, hn1⟩, hs, hpg, hdp, hmo, hco, hfo⟩, hC, hz, hLw⟩ := id hk
  have f0 := hfo.1
  have f1 : x2 25 ≤ 5 := by omega
  clear hLw
  refine j_iload_n d_Mod_readers_0 rfl ?_
  refine z_iconst d_Mod_readers_1 ?_
  refine z_ldc (w := 1000000) d_Mod_readers_2 k_Mod_158 (by decide) ?_
  refine s_call3 d_Mod_readers_4 c_Mod_18 (Nat.le_of_ble_eq_true rfl) (t_Mod_lies (by first | omega | exact hw _ | exact hx _ _ | assumption) (by first | omega | exact hw _ | exact hx _ _ | assumption) (by first | omega | exact hw _ | exact hx _ _ | assumption) (fun h4 => ?_) (fun h4 => ?_))
  · refine z_if_eq (t := 20) d_Mod_readers_7 (by decide) (by first | omega | exact hw _ | exact hx _ _ | assumption) (fun h => absurd h (by decide)) (fun _ => ?_)
    refine j_iload_n d_Mod_readers_10 rfl ?_
    refine z_iconst d_Mod_readers_11 ?_
    refine z_bipush d_Mod_readers_12 (by decide) ?_
    refine s_call3 d_Mod_readers_14 c_Mod_18 (Nat.le_of_ble_eq_true rfl) (t_Mod_lies (by first | omega | exact hw _ | exact hx _ _ | assumption) (by first | omega | exact hw _ | exact hx _ _ | assumption) (by first | omega | exact hw _ | exact hx _ _ | assumption) (fun h14 => ?_) (fun h14 => ?_))
    · refine z_if_ne (t := 26) d_Mod_readers_17 (by decide) (by first | omega | exact hw _ | exact hx _ _ | assumption) (fun _ => ?_) (fun h => absurd h (by decide))
      refine j_aload_n d_Mod_readers_26 rfl ?_
      refine j_iload_n d_Mod_readers_27 rfl ?_
      refine mp_latest f_Mod_506 d_Mod_readers_28 ?_
      refine j_aload_n d_Mod_readers_31 rfl ?_
      refine z_iconst d_Mod_readers_32 ?_
      refine v_call1 d_Mod_readers_33 c_Mod_458 rfl ⟨_, rfl, rfl⟩ (Nat.le_of_ble_eq_true rfl) (t_Mod_laysAside (by omega) (by omega) ?_)
      refine z_iconst d_Mod_readers_36 ?_
      refine j_istore_n d_Mod_readers_37 (by decide) ?_
      show SJ _ _ _ _ [_, _, _, _, _] _ _ _ _ _
      refine z_iconst d_Mod_readers_38 ?_
      refine j_istore d_Mod_readers_39 (by decide) ?_
      show SJ _ _ _ _ [_, _, _, _, _] _ _ _ _ _
      refine lp_readers (seed := seed) (n := n) (by omega) (fun K L al hk2 hK hR j22 j23 j24 j25 y26 y29 y30 => ?_) _ 0 0 x2 seed _ _ _ _ _ _ _ rfl (by omega) (by omega) hk (fun _ _ => rfl) (by omega) (by omega) rfl
      rw [show n - 0 = n by omega] at hR
      have hQ2 := hQ (by omega) (by rw [← hR]; exact hk2)
      rw [← hR] at hQ2
      refine z_iconst d_Mod_readers_85 ?_
      refine j_istore d_Mod_readers_86 (by decide) ?_
      show SJ _ _ _ _ [_, _, _, _, _] _ _ _ _ _
      have q := lp_readers2 (g := g) (d := d) (al := al) (seed := seed) (n := n) (x2 := K) (i0 := i0) (i51 := i51) (i52 := L) (x5 := cpy x2 x5 0 (22 * 0) 22) (x50 := x50) (i22 := j22) (i23 := j23) (i24 := j24) (i25 := j25) (x26 := y26) (x29 := y29) (x30 := y30) (i6 := i6) (i8 := i8) (i9 := i9) (i10 := i10) (i13 := i13) (i14 := i14) (i18 := i18) (i19 := i19) (i20 := i20) (i21 := i21) (i27 := i27) (i28 := i28) (i33 := i33) (i42 := i42) (i43 := i43) (i44 := i44) (i45 := i45) (i46 := i46) (i47 := i47) (i48 := i48) (x1 := x1) (x3 := x3) (x4 := x4) (x7 := x7) (x11 := x11) (x12 := x12) (x15 := x15) (x16 := x16) (x17 := x17) (x31 := x31) (x32 := x32) (x34 := x34) (x35 := x35) (x36 := x36) (x37 := x37) (x38 := x38) (x39 := x39) (x40 := x40) (x41 := x41) (x49 := x49) (Q := Q) ?_ _ 0 rfl (by omega) (by omega)
      · rw [cpy_0] at q
        exact q
      obtain ⟨⟨⟨hn0b, hn1b⟩, hsb, -⟩, -⟩ := id hk2
      refine j_aload_n d_Mod_readers_115 rfl ?_
      refine j_aload_n d_Mod_readers_116 rfl ?_
      refine v_call0 d_Mod_readers_117 c_Mod_294 rfl ⟨_, rfl, rfl⟩ (Nat.le_of_ble_eq_true rfl) (t_Mod_looseMany hn0b hn1b hsb ?_)
      refine mp_drawnLoose f_Mod_116 d_Mod_readers_120 ?_
      rw [lo_eq y29 y30]
      refine j_aload_n d_Mod_readers_123 rfl ?_
      refine z_iconst d_Mod_readers_124 ?_
      refine v_call1 d_Mod_readers_125 c_Mod_464 rfl ⟨_, rfl, rfl⟩ (Nat.le_of_ble_eq_true rfl) (t_Mod_takesBack (by omega) (by omega) ?_)
      rw [back22 (fun j hj => hK j (Or.inl hj)) (fun j hj => hK j (Or.inr hj))]
      refine j_aload_n d_Mod_readers_128 rfl ?_
      refine j_iload_n d_Mod_readers_129 rfl ?_
      refine v_call1 d_Mod_readers_130 c_Mod_14 rfl ⟨_, rfl, rfl⟩ (Nat.le_of_ble_eq_true rfl) (t_Mod_good  ?_)
      exact j_ireturn rfl d_Mod_readers_133 (hQ2 _ _ _ _ _ _ _ _ _)
    · refine z_if_ne (t := 26) d_Mod_readers_17 (by decide) (by first | omega | exact hw _ | exact hx _ _ | assumption) (fun h => absurd h (by decide)) (fun _ => ?_)
      refine j_aload_n d_Mod_readers_20 rfl ?_
      refine z_iconst d_Mod_readers_21 ?_
      refine v_call1 d_Mod_readers_22 c_Mod_119 rfl ⟨_, rfl, rfl⟩ (Nat.le_of_ble_eq_true rfl) (t_Mod_refuses (by omega) (by omega) ?_)
      exact z_iret rfl d_Mod_readers_25 rfl (hnx (by omega))
  · refine z_if_eq (t := 20) d_Mod_readers_7 (by decide) (by first | omega | exact hw _ | exact hx _ _ | assumption) (fun _ => ?_) (fun h => absurd h (by decide))
    refine j_aload_n d_Mod_readers_20 rfl ?_
    refine z_iconst d_Mod_readers_21 ?_
    refine v_call1 d_Mod_readers_22 c_Mod_119 rfl ⟨_, rfl, rfl⟩ (Nat.le_of_ble_eq_true rfl) (t_Mod_refuses (by omega) (by omega) ?_)
    exact z_iret rfl d_Mod_readers_25 rfl (hnx (by omega))
theorem lp_row {g : Bool} {d : Nat} {Q : List xM → Option Value → Prop} {i0 i8 i9 i10 i14 i18 i19 i20 i21 i22 i23 i24 i25 i27 i28 i33 i42 i43 i44 i45 i46 i47 i48 i51 i52 : Int} {x1 x3 x4 x5 x7 x11 x12 x15 x16 x17 x26 x29 x30 x31 x32 x34 x35 x36 x37 x38 x39 x40 x41 x49 x50 : Int → Int} (ht : ∀ j, 0 ≤ j → j < 400 → -128 ≤ x11 j ∧ x11 j ≤ 127) {size : Int} (z0_ : 0 ≤ size) (z1_ : size ≤ 400) {R : (Int → Int) × Int × Int} (hQ : KOK R.1 → Q (MM 0 R.2.2 i8 i9 i10 0 i14 i18 i19 i20 i21 i22 i23 i24 i25 i27 i28 0 i42 i43 i44 i45 i46 i47 i48 i51 i52 x1 R.1 x3 x4 x5 x7 x11 x12 x15 x16 x17 x26 x29 x30 x31 x32 x34 x35 x36 x37 x38 x39 x40 x41 x49 x50) (some (.int (ii R.2.1)))) : ∀ (nn : Nat) (k : Int) (n : Int) (bl : Int) (K : Int → Int), (size - k).toNat = nn → 0 ≤ k → k ≤ size → KOK K → rwF x11 (size - k).toNat k K n bl = R → SJ g m_Mod_row (d + 2) 30 [some (.ref 0), some (.int (ii size)), some (.int (ii n)), some (.int (ii k))] [] (MM i0 bl i8 i9 i10 0 i14 i18 i19 i20 i21 i22 i23 i24 i25 i27 i28 i33 i42 i43 i44 i45 i46 i47 i48 i51 i52 x1 K x3 x4 x5 x7 x11 x12 x15 x16 x17 x26 x29 x30 x31 x32 x34 x35 x36 x37 x38 x39 x40 x41 x49 x50) 0 0 Q := by
  intro nn
  induction nn using Nat.strongRecOn with
  | ind nn ih =>
  intro k n bl K hn k0 k1 hk hR
  obtain ⟨⟨⟨hn0, hn1⟩, hs, hpg, hdp, hmo, hco, hfo⟩, hT⟩ := id hk
  clear hT
  refine j_iload_n d_Mod_row_30 rfl ?_
  refine j_iload_n d_Mod_row_31 rfl ?_
  refine z_icmp_ge (t := 105) d_Mod_row_32 (by decide) (by first | omega | exact hw _ | exact hx _ _ | assumption) (by first | omega | exact hw _ | exact hx _ _ | assumption) (fun h32 => ?_) (fun h32 => ?_)
  · rw [show (size - k).toNat = 0 by omega] at hR
    simp only [rwF] at hR
    subst hR
    refine j_aload_n d_Mod_row_105 rfl ?_
    refine j_iload_n d_Mod_row_106 rfl ?_
    refine v_call1 d_Mod_row_107 c_Mod_122 rfl ⟨_, rfl, rfl⟩ (Nat.le_of_ble_eq_true rfl) (t_Mod_settled  ?_)
    exact j_ireturn rfl d_Mod_row_110 (hQ hk)
  · have htk := ht k (by omega) (by omega)
    rw [show (size - k).toNat = (size - (k + 1)).toNat + 1 by omega] at hR
    simp only [rwF] at hR
    refine j_aload_n d_Mod_row_35 rfl ?_
    refine v_call0 d_Mod_row_36 c_Mod_125 rfl ⟨_, rfl, rfl⟩ (Nat.le_of_ble_eq_true rfl) (t_Mod_length  ?_)
    refine z_bipush d_Mod_row_39 (by decide) ?_
    refine z_icmp_eq (t := 56) d_Mod_row_41 (by decide) (by first | omega | exact hw _ | exact hx _ _ | assumption) (by first | omega | exact hw _ | exact hx _ _ | assumption) (fun h41 => ?_) (fun h41 => ?_)
    · refine j_aload_n d_Mod_row_56 rfl ?_
      refine j_dup d_Mod_row_57 rfl ?_
      refine mg_blots0 f_Mod_139 d_Mod_row_58 ?_
      refine z_iconst d_Mod_row_61 ?_
      refine z_iadd d_Mod_row_62 ?_
      refine mp_blots0 f_Mod_139 d_Mod_row_63 ?_
      refine j_goto (t := 99) d_Mod_row_66 (by decide) ?_
      refine z_iinc d_Mod_row_99 rfl (by decide) ?_
      show SJ _ _ _ _ [_, _, _, _] _ _ _ _ _
      refine j_goto (t := 30) d_Mod_row_102 (by decide) ?_
      first
      | (rw [if_pos (by omega)] at hR
         exact ih _ (by omega) _ _ _ _ rfl (by omega) (by omega) hk hR)
      | (rw [if_neg (by omega)] at hR
         exact ih _ (by omega) _ _ _ _ rfl (by omega) (by omega) (rwK_ok hk (by omega) (by omega) (by omega)) hR)
    · refine j_aload_n d_Mod_row_44 rfl ?_
      refine mg_tape f_Mod_49 d_Mod_row_45 ?_
      refine j_iload_n d_Mod_row_48 rfl ?_
      refine ml_tape d_Mod_row_49 (by omega) (by omega) ?_
      refine s_call1 d_Mod_row_50 c_Mod_142 (Nat.le_of_ble_eq_true rfl) (t_Mod_isSign (by first | omega | exact hw _ | exact hx _ _ | assumption) (fun h50 => ?_) (fun h50 => ?_))
      · refine z_if_ne (t := 69) d_Mod_row_53 (by decide) (by first | omega | exact hw _ | exact hx _ _ | assumption) (fun _ => ?_) (fun h => absurd h (by decide))
        refine j_aload_n d_Mod_row_69 rfl ?_
        refine mg_kept f_Mod_32 d_Mod_row_70 ?_
        refine z_iconst d_Mod_row_73 ?_
        refine j_aload_n d_Mod_row_74 rfl ?_
        refine v_call0 d_Mod_row_75 c_Mod_125 rfl ⟨_, rfl, rfl⟩ (Nat.le_of_ble_eq_true rfl) (t_Mod_length  ?_)
        refine z_iadd d_Mod_row_78 ?_
        refine j_aload_n d_Mod_row_79 rfl ?_
        refine mg_tape f_Mod_49 d_Mod_row_80 ?_
        refine j_iload_n d_Mod_row_83 rfl ?_
        refine ml_tape d_Mod_row_84 (by omega) (by omega) ?_
        refine ms_kept d_Mod_row_85 (by omega) (by omega) ?_
        refine j_aload_n d_Mod_row_86 rfl ?_
        refine mg_kept f_Mod_32 d_Mod_row_87 ?_
        refine z_iconst d_Mod_row_90 ?_
        refine j_dup2 d_Mod_row_91 rfl rfl ?_
        refine ml_kept d_Mod_row_92 (by omega) (by omega) ?_
        rw [up_ne (by omega)]
        refine z_iconst d_Mod_row_93 ?_
        refine z_iadd d_Mod_row_94 ?_
        refine ms_kept d_Mod_row_95 (by omega) (by omega) ?_
        refine z_iinc d_Mod_row_96 rfl (by decide) ?_
        show SJ _ _ _ _ [_, _, _, _] _ _ _ _ _
        refine z_iinc d_Mod_row_99 rfl (by decide) ?_
        show SJ _ _ _ _ [_, _, _, _] _ _ _ _ _
        refine j_goto (t := 30) d_Mod_row_102 (by decide) ?_
        first
        | (rw [if_pos (by omega)] at hR
           exact ih _ (by omega) _ _ _ _ rfl (by omega) (by omega) hk hR)
        | (rw [if_neg (by omega)] at hR
           exact ih _ (by omega) _ _ _ _ rfl (by omega) (by omega) (rwK_ok hk (by omega) (by omega) (by omega)) hR)
      · refine z_if_ne (t := 69) d_Mod_row_53 (by decide) (by first | omega | exact hw _ | exact hx _ _ | assumption) (fun h => absurd h (by decide)) (fun _ => ?_)
        refine j_aload_n d_Mod_row_56 rfl ?_
        refine j_dup d_Mod_row_57 rfl ?_
        refine mg_blots0 f_Mod_139 d_Mod_row_58 ?_
        refine z_iconst d_Mod_row_61 ?_
        refine z_iadd d_Mod_row_62 ?_
        refine mp_blots0 f_Mod_139 d_Mod_row_63 ?_
        refine j_goto (t := 99) d_Mod_row_66 (by decide) ?_
        refine z_iinc d_Mod_row_99 rfl (by decide) ?_
        show SJ _ _ _ _ [_, _, _, _] _ _ _ _ _
        refine j_goto (t := 30) d_Mod_row_102 (by decide) ?_
        first
        | (rw [if_pos (by omega)] at hR
           exact ih _ (by omega) _ _ _ _ rfl (by omega) (by omega) hk hR)
        | (rw [if_neg (by omega)] at hR
           exact ih _ (by omega) _ _ _ _ rfl (by omega) (by omega) (rwK_ok hk (by omega) (by omega) (by omega)) hR)
theorem t_Mod_row {g : Bool} {d : Nat} {Q : List xM → Option Value → Prop} {i0 i6 i8 i9 i10 i13 i14 i18 i19 i20 i21 i22 i23 i24 i25 i27 i28 i33 i42 i43 i44 i45 i46 i47 i48 i51 i52 : Int} {x1 x2 x3 x4 x5 x7 x11 x12 x15 x16 x17 x26 x29 x30 x31 x32 x34 x35 x36 x37 x38 x39 x40 x41 x49 x50 : Int → Int} (hk : KOK x2) (ht : ∀ j, 0 ≤ j → j < 400 → -128 ≤ x11 j ∧ x11 j ≤ 127) (t0_ : 0 ≤ i13) (t1_ : i13 ≤ 400) (hnx : i13 = 0 → Q (MM (-6) i6 i8 i9 i10 0 i14 i18 i19 i20 i21 i22 i23 i24 i25 i27 i28 i33 i42 i43 i44 i45 i46 i47 i48 i51 i52 (up x1 (0 - (-6)) (x1 (0 - (-6)) + 1)) x2 x3 x4 x5 x7 x11 x12 x15 x16 x17 x26 x29 x30 x31 x32 x34 x35 x36 x37 x38 x39 x40 x41 x49 x50) (some (.int (ii (-6))))) (hQ : i13 ≠ 0 → KOK (rwF x11 i13.toNat 0 x2 0 0).1 → Q (MM 0 (rwF x11 i13.toNat 0 x2 0 0).2.2 i8 i9 i10 0 i14 i18 i19 i20 i21 i22 i23 i24 i25 i27 i28 0 i42 i43 i44 i45 i46 i47 i48 i51 i52 x1 (rwF x11 i13.toNat 0 x2 0 0).1 x3 x4 x5 x7 x11 x12 x15 x16 x17 x26 x29 x30 x31 x32 x34 x35 x36 x37 x38 x39 x40 x41 x49 x50) (some (.int (ii (rwF x11 i13.toNat 0 x2 0 0).2.1)))) : CT g m_Mod_row (d + 2) [.ref 0] (MM i0 i6 i8 i9 i10 i13 i14 i18 i19 i20 i21 i22 i23 i24 i25 i27 i28 i33 i42 i43 i44 i45 i46 i47 i48 i51 i52 x1 x2 x3 x4 x5 x7 x11 x12 x15 x16 x17 x26 x29 x30 x31 x32 x34 x35 x36 x37 x38 x39 x40 x41 x49 x50) 0 0 Q := by
  refine CT.of (by decide) (Nat.le_of_ble_eq_true rfl) ?_
  show SJ _ _ _ _ [some (.ref 0), none, none, none] [] _ _ _ _
  refine j_aload_n d_Mod_row_0 rfl ?_
  refine mg_taped f_Mod_136 d_Mod_row_1 ?_
  refine j_istore_n d_Mod_row_4 (by decide) ?_
  show SJ _ _ _ _ [_, _, _, _] _ _ _ _ _
  refine j_aload_n d_Mod_row_5 rfl ?_
  refine z_iconst d_Mod_row_6 ?_
  refine mp_taped f_Mod_136 d_Mod_row_7 ?_
  refine j_iload_n d_Mod_row_10 rfl ?_
  refine z_if_ne (t := 21) d_Mod_row_11 (by decide) (by first | omega | exact hw _ | exact hx _ _ | assumption) (fun h11 => ?_) (fun h11 => ?_)
  · refine z_iconst d_Mod_row_21 ?_
    refine j_istore_n d_Mod_row_22 (by decide) ?_
    show SJ _ _ _ _ [_, _, _, _] _ _ _ _ _
    refine j_aload_n d_Mod_row_23 rfl ?_
    refine z_iconst d_Mod_row_24 ?_
    refine mp_blots0 f_Mod_139 d_Mod_row_25 ?_
    refine z_iconst d_Mod_row_28 ?_
    refine j_istore_n d_Mod_row_29 (by decide) ?_
    show SJ _ _ _ _ [_, _, _, _] _ _ _ _ _
    refine lp_row (size := i13) ht (by omega) (by omega) (hQ (by omega)) _ 0 0 0 x2 rfl (by omega) (by omega) hk ?_
    rw [show i13 - 0 = i13 by omega]
  · refine j_aload_n d_Mod_row_14 rfl ?_
    refine z_bipush d_Mod_row_15 (by decide) ?_
    refine v_call1 d_Mod_row_17 c_Mod_119 rfl ⟨_, rfl, rfl⟩ (Nat.le_of_ble_eq_true rfl) (t_Mod_refuses (by omega) (by omega) ?_)
    exact z_iret rfl d_Mod_row_20 rfl (hnx (by omega))
theorem lp_feed {g : Bool} {d : Nat} {Q : List xM → Option Value → Prop} {i0 i6 i8 i9 i10 i13 i14 i18 i19 i20 i21 i22 i23 i24 i25 i27 i28 i33 i42 i43 i44 i45 i46 i47 i48 i51 i52 : Int} {x1 x2 x3 x4 x5 x7 x11 x12 x15 x16 x17 x26 x29 x30 x31 x32 x34 x35 x36 x37 x38 x39 x40 x41 x49 x50 : Int → Int} {a b c e f : Int} (t0_ : 0 ≤ i13) (t1_ : i13 ≤ 380) (hQ : Q (MM i0 i6 i8 i9 i10 (i13 + 20) i14 i18 i19 i20 i21 i22 i23 i24 i25 i27 i28 i33 i42 i43 i44 i45 i46 i47 i48 i51 i52 x1 x2 x3 x4 x5 x7 (fdF x12 i13 20 x11) x12 x15 x16 x17 x26 x29 x30 x31 x32 x34 x35 x36 x37 x38 x39 x40 x41 x49 x50) (some (.int (ii (i13 + 20))))) : ∀ (nn : Nat) (k : Int), (20 - k).toNat = nn → 0 ≤ k → k ≤ 20 → SJ g m_Mod_feed d 55 [some (.ref 0), some (.int (ii a)), some (.int (ii b)), some (.int (ii c)), some (.int (ii e)), some (.int (ii f)), some (.int (ii k))] [] (MM i0 i6 i8 i9 i10 i13 i14 i18 i19 i20 i21 i22 i23 i24 i25 i27 i28 i33 i42 i43 i44 i45 i46 i47 i48 i51 i52 x1 x2 x3 x4 x5 x7 (fdF x12 i13 k.toNat x11) x12 x15 x16 x17 x26 x29 x30 x31 x32 x34 x35 x36 x37 x38 x39 x40 x41 x49 x50) 0 0 Q := by
  intro nn
  induction nn using Nat.strongRecOn with
  | ind nn ih =>
  intro k hn k0 k1
  have hq4 : 0 ≤ k.tdiv 4 ∧ (k < 20 → k.tdiv 4 < 5) := by
    rw [Int.tdiv_eq_ediv_of_nonneg k0]
    omega
  refine j_iload d_Mod_feed_55 rfl ?_
  refine z_bipush d_Mod_feed_57 (by decide) ?_
  refine z_icmp_ge (t := 101) d_Mod_feed_59 (by decide) (by first | omega | exact hw _ | exact hx _ _ | assumption) (by first | omega | exact hw _ | exact hx _ _ | assumption) (fun h59 => ?_) (fun h59 => ?_)
  · have e : k = 20 := by omega
    subst e
    refine j_aload_n d_Mod_feed_101 rfl ?_
    refine j_dup d_Mod_feed_102 rfl ?_
    refine mg_taped f_Mod_136 d_Mod_feed_103 ?_
    refine z_bipush d_Mod_feed_106 (by decide) ?_
    refine z_iadd d_Mod_feed_108 ?_
    refine mp_taped f_Mod_136 d_Mod_feed_109 ?_
    refine j_aload_n d_Mod_feed_112 rfl ?_
    refine mg_taped f_Mod_136 d_Mod_feed_113 ?_
    exact z_iret rfl d_Mod_feed_116 (by first | rfl | omega | simp_all) hQ
  · refine j_aload_n d_Mod_feed_62 rfl ?_
    refine mg_tape f_Mod_49 d_Mod_feed_63 ?_
    refine j_aload_n d_Mod_feed_66 rfl ?_
    refine mg_taped f_Mod_136 d_Mod_feed_67 ?_
    refine j_iload d_Mod_feed_70 rfl ?_
    refine z_iadd d_Mod_feed_72 ?_
    refine j_aload_n d_Mod_feed_73 rfl ?_
    refine mg_five f_Mod_52 d_Mod_feed_74 ?_
    refine j_iload d_Mod_feed_77 rfl ?_
    refine z_iconst d_Mod_feed_79 ?_
    refine z_idiv d_Mod_feed_80 (by first | omega | exact hw _ | exact hx _ _ | assumption) (by first | omega | exact hw _ | exact hx _ _ | assumption) (by decide) ?_
    refine ml_five d_Mod_feed_81 (by omega) (by omega) ?_
    refine z_bipush d_Mod_feed_82 (by decide) ?_
    refine z_bipush d_Mod_feed_84 (by decide) ?_
    refine j_iload d_Mod_feed_86 rfl ?_
    refine z_iconst d_Mod_feed_88 ?_
    refine z_irem d_Mod_feed_89 (by first | omega | exact hw _ | exact hx _ _ | assumption) (by first | omega | exact hw _ | exact hx _ _ | assumption) (by decide) ?_
    refine z_imul d_Mod_feed_90 ?_
    refine z_isub d_Mod_feed_91 ?_
    refine j_ishr d_Mod_feed_92 ?_
    refine j_i2b d_Mod_feed_93 ?_
    rw [← bt_ii]
    refine ms_tape d_Mod_feed_94 (by omega) (by omega) (by rw [bt_ii]; show Int8.toInt32 (Int32.toInt8 (Int8.toInt32 _)) = _; rw [Int8.toInt8_toInt32]) ?_
    rw [show up (fdF x12 i13 k.toNat x11) (i13 + k) (bt (x12 (k.tdiv 4)) (k.tmod 4)) = fdF x12 i13 (k + 1).toNat x11 by rw [show (k + 1).toNat = k.toNat + 1 by omega]; show _ = up _ (i13 + ((k.toNat : Nat) : Int)) (bt (x12 (((k.toNat : Nat) : Int).tdiv 4)) (((k.toNat : Nat) : Int).tmod 4)); rw [Int.toNat_of_nonneg k0]]
    refine z_iinc d_Mod_feed_95 rfl (by decide) ?_
    show SJ _ _ _ _ [_, _, _, _, _, _, _] _ _ _ _ _
    refine j_goto (t := 55) d_Mod_feed_98 (by decide) ?_
    exact ih _ (by omega) _ rfl (by omega) (by omega)
theorem t_Mod_feed {g : Bool} {d : Nat} {Q : List xM → Option Value → Prop} {i0 i6 i8 i9 i10 i13 i14 i18 i19 i20 i21 i22 i23 i24 i25 i27 i28 i33 i42 i43 i44 i45 i46 i47 i48 i51 i52 : Int} {x1 x2 x3 x4 x5 x7 x11 x12 x15 x16 x17 x26 x29 x30 x31 x32 x34 x35 x36 x37 x38 x39 x40 x41 x49 x50 : Int → Int} {a b c e f : Int} (t0_ : 0 ≤ i13) (t1_ : i13 ≤ 400) (hnx : 380 < i13 → Q (MM i0 i6 i8 i9 i10 i13 i14 i18 i19 i20 i21 i22 i23 i24 i25 i27 i28 i33 i42 i43 i44 i45 i46 i47 i48 i51 i52 x1 x2 x3 x4 x5 x7 x11 x12 x15 x16 x17 x26 x29 x30 x31 x32 x34 x35 x36 x37 x38 x39 x40 x41 x49 x50) (some (.int (ii (-1))))) (hQ : i13 ≤ 380 → Q (MM i0 i6 i8 i9 i10 (i13 + 20) i14 i18 i19 i20 i21 i22 i23 i24 i25 i27 i28 i33 i42 i43 i44 i45 i46 i47 i48 i51 i52 x1 x2 x3 x4 x5 x7 (fdF (up (up (up (up (up x12 0 a) 1 b) 2 c) 3 e) 4 f) i13 20 x11) (up (up (up (up (up x12 0 a) 1 b) 2 c) 3 e) 4 f) x15 x16 x17 x26 x29 x30 x31 x32 x34 x35 x36 x37 x38 x39 x40 x41 x49 x50) (some (.int (ii (i13 + 20))))) : CT g m_Mod_feed d [.ref 0, .int (ii a), .int (ii b), .int (ii c), .int (ii e), .int (ii f)] (MM i0 i6 i8 i9 i10 i13 i14 i18 i19 i20 i21 i22 i23 i24 i25 i27 i28 i33 i42 i43 i44 i45 i46 i47 i48 i51 i52 x1 x2 x3 x4 x5 x7 x11 x12 x15 x16 x17 x26 x29 x30 x31 x32 x34 x35 x36 x37 x38 x39 x40 x41 x49 x50) 0 0 Q := by
  refine CT.of (by decide) (Nat.le_of_ble_eq_true rfl) ?_
  show SJ _ _ _ _ [some (.ref 0), some (.int (ii a)), some (.int (ii b)), some (.int (ii c)), some (.int (ii e)), some (.int (ii f)), none] [] _ _ _ _
  refine j_aload_n d_Mod_feed_0 rfl ?_
  refine mg_taped f_Mod_136 d_Mod_feed_1 ?_
  refine z_bipush d_Mod_feed_4 (by decide) ?_
  refine z_iadd d_Mod_feed_6 ?_
  refine z_sipush d_Mod_feed_7 (by decide) ?_
  refine z_icmp_le (t := 15) d_Mod_feed_10 (by decide) (by first | omega | exact hw _ | exact hx _ _ | assumption) (by first | omega | exact hw _ | exact hx _ _ | assumption) (fun h10 => ?_) (fun h10 => ?_)
  · refine j_aload_n d_Mod_feed_15 rfl ?_
    refine mg_five f_Mod_52 d_Mod_feed_16 ?_
    refine z_iconst d_Mod_feed_19 ?_
    refine j_iload_n d_Mod_feed_20 rfl ?_
    refine ms_five d_Mod_feed_21 (by omega) (by omega) ?_
    refine j_aload_n d_Mod_feed_22 rfl ?_
    refine mg_five f_Mod_52 d_Mod_feed_23 ?_
    refine z_iconst d_Mod_feed_26 ?_
    refine j_iload_n d_Mod_feed_27 rfl ?_
    refine ms_five d_Mod_feed_28 (by omega) (by omega) ?_
    refine j_aload_n d_Mod_feed_29 rfl ?_
    refine mg_five f_Mod_52 d_Mod_feed_30 ?_
    refine z_iconst d_Mod_feed_33 ?_
    refine j_iload_n d_Mod_feed_34 rfl ?_
    refine ms_five d_Mod_feed_35 (by omega) (by omega) ?_
    refine j_aload_n d_Mod_feed_36 rfl ?_
    refine mg_five f_Mod_52 d_Mod_feed_37 ?_
    refine z_iconst d_Mod_feed_40 ?_
    refine j_iload d_Mod_feed_41 rfl ?_
    refine ms_five d_Mod_feed_43 (by omega) (by omega) ?_
    refine j_aload_n d_Mod_feed_44 rfl ?_
    refine mg_five f_Mod_52 d_Mod_feed_45 ?_
    refine z_iconst d_Mod_feed_48 ?_
    refine j_iload d_Mod_feed_49 rfl ?_
    refine ms_five d_Mod_feed_51 (by omega) (by omega) ?_
    refine z_iconst d_Mod_feed_52 ?_
    refine j_istore d_Mod_feed_53 (by decide) ?_
    show SJ _ _ _ _ [_, _, _, _, _, _, _] _ _ _ _ _
    exact lp_feed (x12 := (up (up (up (up (up x12 0 a) 1 b) 2 c) 3 e) 4 f)) (by omega) (by omega) (hQ (by omega)) _ 0 rfl (by omega) (by omega)
  · refine z_iconst d_Mod_feed_13 ?_
    exact z_iret rfl d_Mod_feed_14 rfl (hnx (by omega))
