theorem lp_pairs {g : Bool} {d : Nat} {Q : List xM → Option Value → Prop} {i0 i6 i8 i9 i10 i13 i14 i18 i19 i20 i21 i22 i23 i24 i25 i27 i28 i33 i42 i43 i44 i45 i46 i47 i48 i51 i52 : Int} {x1 x2 x3 x4 x5 x7 x11 x12 x15 x16 x17 x26 x31 x32 x34 x35 x36 x37 x38 x39 x40 x41 x49 x50 : Int → Int} {from_ to_ : Int} (f1 : 0 ≤ from_) (f2 : to_ ≤ 20) (f0 : 0 ≤ to_) (hs : ∀ j, 0 ≤ j → j < to_ → 0 ≤ x2 (1 + j) ∧ x2 (1 + j) ≤ 11) {R : Int × Int × (Int → Int) × (Int → Int)} (hQ : Q (MM i0 i6 i8 i9 i10 i13 i14 i18 i19 i20 i21 i22 i23 i24 i25 i27 i28 i33 i42 i43 i44 i45 i46 i47 i48 i51 i52 x1 x2 x3 x4 x5 x7 x11 x12 x15 x16 x17 x26 R.2.2.1 R.2.2.2 x31 x32 x34 x35 x36 x37 x38 x39 x40 x41 x49 x50) (some (.int (ii (R.2.1 + R.1))))) : ∀ (nn : Nat) (p : Int) (many : Int) (loose : Int) (po : Int → Int) (op : Int → Int), (to_ - p).toNat = nn → from_ ≤ p → 0 ≤ many → many ≤ p - from_ → (∀ j, 0 ≤ j → j < many → 0 ≤ op j ∧ op j < p) → R32 p → prs x2 (to_ - p).toNat p (many, loose, po, op) = R → SJ g m_Mod_pairs (d + 2) 8 [some (.ref 0), some (.int (ii (from_))), some (.int (ii (to_))), some (.int (ii many)), some (.int (ii loose)), some (.int (ii p)), none] [] (MM i0 i6 i8 i9 i10 i13 i14 i18 i19 i20 i21 i22 i23 i24 i25 i27 i28 i33 i42 i43 i44 i45 i46 i47 i48 i51 i52 x1 x2 x3 x4 x5 x7 x11 x12 x15 x16 x17 x26 po op x31 x32 x34 x35 x36 x37 x38 x39 x40 x41 x49 x50) 0 0 Q := by
  intro nn
  induction nn using Nat.strongRecOn with
  | ind nn ih =>
  intro p many loose po op hn a1 a3 a4 a5 r1 hR
  refine j_iload d_Mod_pairs_8 rfl ?_
  refine j_iload_n d_Mod_pairs_10 rfl ?_
  refine z_icmp_ge (t := 136) d_Mod_pairs_11 (by decide) (by first | assumption | omega) (by first | assumption | omega) (fun h11 => ?_) (fun h11 => ?_)
  · rw [show (to_ - p).toNat = 0 by omega] at hR
    simp only [prs] at hR
    subst hR
    refine j_iload d_Mod_pairs_136 rfl ?_
    refine j_iload_n d_Mod_pairs_138 rfl ?_
    refine z_iadd d_Mod_pairs_139 ?_
    exact z_iret rfl d_Mod_pairs_140 (by first | rfl | omega | simp_all) hQ
  · have hsp := hs p (by omega) (by omega)
    rw [show (to_ - p).toNat = (to_ - (p + 1)).toNat + 1 by omega] at hR
    simp only [prs] at hR
    refine j_aload_n d_Mod_pairs_14 rfl ?_
    refine mg_pairOf f_Mod_70 d_Mod_pairs_15 ?_
    refine j_iload d_Mod_pairs_18 rfl ?_
    refine z_iconst d_Mod_pairs_20 ?_
    refine ms_pairOf d_Mod_pairs_21 (by omega) (by omega) ?_
    refine j_aload_n d_Mod_pairs_22 rfl ?_
    refine j_iload d_Mod_pairs_23 rfl ?_
    refine v_call1 d_Mod_pairs_25 c_Mod_324 rfl ⟨_, rfl, rfl⟩ (Nat.le_of_ble_eq_true rfl) (t_Mod_signAt (by omega) (by omega) ?_)
    refine j_istore d_Mod_pairs_28 (by decide) ?_
    show SJ _ _ _ _ [_, _, _, _, _, _, _] _ _ _ _ _
    refine j_iload d_Mod_pairs_30 rfl ?_
    refine s_call1 d_Mod_pairs_32 c_Mod_312 (Nat.le_of_ble_eq_true rfl) (t_Mod_opens0 (by first | omega | exact hw _ | exact hx _ _ | assumption) (fun h32 => ?_) (fun h32 => ?_))
    · refine z_if_eq (t := 52) d_Mod_pairs_35 (by decide) (by first | omega | exact hw _ | exact hx _ _ | assumption) (fun h => absurd h (by decide)) (fun _ => ?_)
      refine j_aload_n d_Mod_pairs_38 rfl ?_
      refine mg_open0 f_Mod_73 d_Mod_pairs_39 ?_
      refine j_iload_n d_Mod_pairs_42 rfl ?_
      refine j_iload d_Mod_pairs_43 rfl ?_
      refine ms_open0 d_Mod_pairs_45 (by omega) (by omega) ?_
      refine z_iinc d_Mod_pairs_46 rfl (by decide) ?_
      show SJ _ _ _ _ [_, _, _, _, _, _, _] _ _ _ _ _
      refine j_goto (t := 130) d_Mod_pairs_49 (by decide) ?_
      refine z_iinc d_Mod_pairs_130 rfl (by decide) ?_
      show SJ _ _ _ _ [_, _, _, _, _, _, _] _ _ _ _ _
      refine j_goto (t := 8) d_Mod_pairs_133 (by decide) ?_
      refine SJ.mask [true, true, true, true, true, true, false] ?_
      show SJ _ _ _ _ [_, _, _, _, _, _, none] _ _ _ _ _
      first
      | (exfalso; omega)
      | exact ih _ (by omega) _ _ _ _ _ rfl (by omega) (by omega) (by omega) (by first | (intro j h1 h2; by_cases e : j = many; (subst e; rw [up_eq]; omega); (rw [up_ne e]; have := a5 j h1 (by omega); omega)) | (intro j h1 h2; have := a5 j h1 (by omega); omega)) (by omega) (by first | (rw [prS, if_pos (by omega)] at hR; exact hR) | (rw [prS, if_neg (by omega), if_pos (by omega)] at hR; exact hR) | (rw [prS, if_neg (by omega), if_neg (by omega), if_pos (by omega)] at hR; exact hR) | (rw [prS, if_neg (by omega), if_neg (by omega), if_neg (by omega)] at hR; exact hR))
    · refine z_if_eq (t := 52) d_Mod_pairs_35 (by decide) (by first | omega | exact hw _ | exact hx _ _ | assumption) (fun _ => ?_) (fun h => absurd h (by decide))
      refine j_iload d_Mod_pairs_52 rfl ?_
      refine s_call1 d_Mod_pairs_54 c_Mod_333 (Nat.le_of_ble_eq_true rfl) (t_Mod_closes0 (by first | omega | exact hw _ | exact hx _ _ | assumption) (fun h54 => ?_) (fun h54 => ?_))
      · refine z_if_eq (t := 119) d_Mod_pairs_57 (by decide) (by first | omega | exact hw _ | exact hx _ _ | assumption) (fun h => absurd h (by decide)) (fun _ => ?_)
        refine j_iload_n d_Mod_pairs_60 rfl ?_
        refine z_if_le (t := 119) d_Mod_pairs_61 (by decide) (by first | omega | exact hw _ | exact hx _ _ | assumption) (fun h61 => ?_) (fun h61 => ?_)
        · refine j_iload d_Mod_pairs_119 rfl ?_
          refine s_call1 d_Mod_pairs_121 c_Mod_333 (Nat.le_of_ble_eq_true rfl) (t_Mod_closes0 (by first | omega | exact hw _ | exact hx _ _ | assumption) (fun h121 => ?_) (fun h121 => ?_))
          · refine z_if_eq (t := 130) d_Mod_pairs_124 (by decide) (by first | omega | exact hw _ | exact hx _ _ | assumption) (fun h => absurd h (by decide)) (fun _ => ?_)
            refine z_iinc d_Mod_pairs_127 rfl (by decide) ?_
            show SJ _ _ _ _ [_, _, _, _, _, _, _] _ _ _ _ _
            refine z_iinc d_Mod_pairs_130 rfl (by decide) ?_
            show SJ _ _ _ _ [_, _, _, _, _, _, _] _ _ _ _ _
            refine j_goto (t := 8) d_Mod_pairs_133 (by decide) ?_
            refine SJ.mask [true, true, true, true, true, true, false] ?_
            show SJ _ _ _ _ [_, _, _, _, _, _, none] _ _ _ _ _
            first
            | (exfalso; omega)
            | exact ih _ (by omega) _ _ _ _ _ rfl (by omega) (by omega) (by omega) (by first | (intro j h1 h2; by_cases e : j = many; (subst e; rw [up_eq]; omega); (rw [up_ne e]; have := a5 j h1 (by omega); omega)) | (intro j h1 h2; have := a5 j h1 (by omega); omega)) (by omega) (by first | (rw [prS, if_pos (by omega)] at hR; exact hR) | (rw [prS, if_neg (by omega), if_pos (by omega)] at hR; exact hR) | (rw [prS, if_neg (by omega), if_neg (by omega), if_pos (by omega)] at hR; exact hR) | (rw [prS, if_neg (by omega), if_neg (by omega), if_neg (by omega)] at hR; exact hR))
          · refine z_if_eq (t := 130) d_Mod_pairs_124 (by decide) (by first | omega | exact hw _ | exact hx _ _ | assumption) (fun _ => ?_) (fun h => absurd h (by decide))
            refine z_iinc d_Mod_pairs_130 rfl (by decide) ?_
            show SJ _ _ _ _ [_, _, _, _, _, _, _] _ _ _ _ _
            refine j_goto (t := 8) d_Mod_pairs_133 (by decide) ?_
            refine SJ.mask [true, true, true, true, true, true, false] ?_
            show SJ _ _ _ _ [_, _, _, _, _, _, none] _ _ _ _ _
            first
            | (exfalso; omega)
            | exact ih _ (by omega) _ _ _ _ _ rfl (by omega) (by omega) (by omega) (by first | (intro j h1 h2; by_cases e : j = many; (subst e; rw [up_eq]; omega); (rw [up_ne e]; have := a5 j h1 (by omega); omega)) | (intro j h1 h2; have := a5 j h1 (by omega); omega)) (by omega) (by first | (rw [prS, if_pos (by omega)] at hR; exact hR) | (rw [prS, if_neg (by omega), if_pos (by omega)] at hR; exact hR) | (rw [prS, if_neg (by omega), if_neg (by omega), if_pos (by omega)] at hR; exact hR) | (rw [prS, if_neg (by omega), if_neg (by omega), if_neg (by omega)] at hR; exact hR))
        · refine j_aload_n d_Mod_pairs_64 rfl ?_
          refine j_aload_n d_Mod_pairs_65 rfl ?_
          refine mg_open0 f_Mod_73 d_Mod_pairs_66 ?_
          refine j_iload_n d_Mod_pairs_69 rfl ?_
          refine z_iconst d_Mod_pairs_70 ?_
          refine z_isub d_Mod_pairs_71 ?_
          refine ml_open0 d_Mod_pairs_72 (by omega) (by omega) ?_
          have ho := a5 (many - 1) (by omega) (by omega)
          have hso := hs (op (many - 1)) (by omega) (by omega)
          refine v_call1 d_Mod_pairs_73 c_Mod_324 rfl ⟨_, rfl, rfl⟩ (Nat.le_of_ble_eq_true rfl) (t_Mod_signAt (by omega) (by omega) ?_)
          refine s_call1 d_Mod_pairs_76 c_Mod_309 (Nat.le_of_ble_eq_true rfl) (t_Mod_kindOf (by first | omega | exact hw _ | exact hx _ _ | assumption) ?_)
          refine j_iload d_Mod_pairs_79 rfl ?_
          refine s_call1 d_Mod_pairs_81 c_Mod_309 (Nat.le_of_ble_eq_true rfl) (t_Mod_kindOf (by first | omega | exact hw _ | exact hx _ _ | assumption) ?_)
          refine z_icmp_ne (t := 119) d_Mod_pairs_84 (by decide) (kd_R (by omega)) (kd_R (by omega)) (fun h84 => ?_) (fun h84 => ?_)
          · refine j_iload d_Mod_pairs_119 rfl ?_
            refine s_call1 d_Mod_pairs_121 c_Mod_333 (Nat.le_of_ble_eq_true rfl) (t_Mod_closes0 (by first | omega | exact hw _ | exact hx _ _ | assumption) (fun h121 => ?_) (fun h121 => ?_))
            · refine z_if_eq (t := 130) d_Mod_pairs_124 (by decide) (by first | omega | exact hw _ | exact hx _ _ | assumption) (fun h => absurd h (by decide)) (fun _ => ?_)
              refine z_iinc d_Mod_pairs_127 rfl (by decide) ?_
              show SJ _ _ _ _ [_, _, _, _, _, _, _] _ _ _ _ _
              refine z_iinc d_Mod_pairs_130 rfl (by decide) ?_
              show SJ _ _ _ _ [_, _, _, _, _, _, _] _ _ _ _ _
              refine j_goto (t := 8) d_Mod_pairs_133 (by decide) ?_
              refine SJ.mask [true, true, true, true, true, true, false] ?_
              show SJ _ _ _ _ [_, _, _, _, _, _, none] _ _ _ _ _
              first
              | (exfalso; omega)
              | exact ih _ (by omega) _ _ _ _ _ rfl (by omega) (by omega) (by omega) (by first | (intro j h1 h2; by_cases e : j = many; (subst e; rw [up_eq]; omega); (rw [up_ne e]; have := a5 j h1 (by omega); omega)) | (intro j h1 h2; have := a5 j h1 (by omega); omega)) (by omega) (by first | (rw [prS, if_pos (by omega)] at hR; exact hR) | (rw [prS, if_neg (by omega), if_pos (by omega)] at hR; exact hR) | (rw [prS, if_neg (by omega), if_neg (by omega), if_pos (by omega)] at hR; exact hR) | (rw [prS, if_neg (by omega), if_neg (by omega), if_neg (by omega)] at hR; exact hR))
            · refine z_if_eq (t := 130) d_Mod_pairs_124 (by decide) (by first | omega | exact hw _ | exact hx _ _ | assumption) (fun _ => ?_) (fun h => absurd h (by decide))
              refine z_iinc d_Mod_pairs_130 rfl (by decide) ?_
              show SJ _ _ _ _ [_, _, _, _, _, _, _] _ _ _ _ _
              refine j_goto (t := 8) d_Mod_pairs_133 (by decide) ?_
              refine SJ.mask [true, true, true, true, true, true, false] ?_
              show SJ _ _ _ _ [_, _, _, _, _, _, none] _ _ _ _ _
              first
              | (exfalso; omega)
              | exact ih _ (by omega) _ _ _ _ _ rfl (by omega) (by omega) (by omega) (by first | (intro j h1 h2; by_cases e : j = many; (subst e; rw [up_eq]; omega); (rw [up_ne e]; have := a5 j h1 (by omega); omega)) | (intro j h1 h2; have := a5 j h1 (by omega); omega)) (by omega) (by first | (rw [prS, if_pos (by omega)] at hR; exact hR) | (rw [prS, if_neg (by omega), if_pos (by omega)] at hR; exact hR) | (rw [prS, if_neg (by omega), if_neg (by omega), if_pos (by omega)] at hR; exact hR) | (rw [prS, if_neg (by omega), if_neg (by omega), if_neg (by omega)] at hR; exact hR))
          · refine z_iinc d_Mod_pairs_87 rfl (by decide) ?_
            show SJ _ _ _ _ [_, _, _, _, _, _, _] _ _ _ _ _
            have hmm : many + -1 = many - 1 := by omega
            rw [hmm]
            refine j_aload_n d_Mod_pairs_90 rfl ?_
            refine mg_pairOf f_Mod_70 d_Mod_pairs_91 ?_
            refine j_iload d_Mod_pairs_94 rfl ?_
            refine j_aload_n d_Mod_pairs_96 rfl ?_
            refine mg_open0 f_Mod_73 d_Mod_pairs_97 ?_
            refine j_iload_n d_Mod_pairs_100 rfl ?_
            refine ml_open0 d_Mod_pairs_101 (by omega) (by omega) ?_
            refine ms_pairOf d_Mod_pairs_102 (by omega) (by omega) ?_
            refine j_aload_n d_Mod_pairs_103 rfl ?_
            refine mg_pairOf f_Mod_70 d_Mod_pairs_104 ?_
            refine j_aload_n d_Mod_pairs_107 rfl ?_
            refine mg_open0 f_Mod_73 d_Mod_pairs_108 ?_
            refine j_iload_n d_Mod_pairs_111 rfl ?_
            refine ml_open0 d_Mod_pairs_112 (by omega) (by omega) ?_
            refine j_iload d_Mod_pairs_113 rfl ?_
            refine ms_pairOf d_Mod_pairs_115 (by omega) (by omega) ?_
            refine j_goto (t := 130) d_Mod_pairs_116 (by decide) ?_
            refine z_iinc d_Mod_pairs_130 rfl (by decide) ?_
            show SJ _ _ _ _ [_, _, _, _, _, _, _] _ _ _ _ _
            refine j_goto (t := 8) d_Mod_pairs_133 (by decide) ?_
            refine SJ.mask [true, true, true, true, true, true, false] ?_
            show SJ _ _ _ _ [_, _, _, _, _, _, none] _ _ _ _ _
            first
            | (exfalso; omega)
            | exact ih _ (by omega) _ _ _ _ _ rfl (by omega) (by omega) (by omega) (by first | (intro j h1 h2; by_cases e : j = many; (subst e; rw [up_eq]; omega); (rw [up_ne e]; have := a5 j h1 (by omega); omega)) | (intro j h1 h2; have := a5 j h1 (by omega); omega)) (by omega) (by first | (rw [prS, if_pos (by omega)] at hR; exact hR) | (rw [prS, if_neg (by omega), if_pos (by omega)] at hR; exact hR) | (rw [prS, if_neg (by omega), if_neg (by omega), if_pos (by omega)] at hR; exact hR) | (rw [prS, if_neg (by omega), if_neg (by omega), if_neg (by omega)] at hR; exact hR))
      · refine z_if_eq (t := 119) d_Mod_pairs_57 (by decide) (by first | omega | exact hw _ | exact hx _ _ | assumption) (fun _ => ?_) (fun h => absurd h (by decide))
        refine j_iload d_Mod_pairs_119 rfl ?_
        refine s_call1 d_Mod_pairs_121 c_Mod_333 (Nat.le_of_ble_eq_true rfl) (t_Mod_closes0 (by first | omega | exact hw _ | exact hx _ _ | assumption) (fun h121 => ?_) (fun h121 => ?_))
        · refine z_if_eq (t := 130) d_Mod_pairs_124 (by decide) (by first | omega | exact hw _ | exact hx _ _ | assumption) (fun h => absurd h (by decide)) (fun _ => ?_)
          refine z_iinc d_Mod_pairs_127 rfl (by decide) ?_
          show SJ _ _ _ _ [_, _, _, _, _, _, _] _ _ _ _ _
          refine z_iinc d_Mod_pairs_130 rfl (by decide) ?_
          show SJ _ _ _ _ [_, _, _, _, _, _, _] _ _ _ _ _
          refine j_goto (t := 8) d_Mod_pairs_133 (by decide) ?_
          refine SJ.mask [true, true, true, true, true, true, false] ?_
          show SJ _ _ _ _ [_, _, _, _, _, _, none] _ _ _ _ _
          first
          | (exfalso; omega)
          | exact ih _ (by omega) _ _ _ _ _ rfl (by omega) (by omega) (by omega) (by first | (intro j h1 h2; by_cases e : j = many; (subst e; rw [up_eq]; omega); (rw [up_ne e]; have := a5 j h1 (by omega); omega)) | (intro j h1 h2; have := a5 j h1 (by omega); omega)) (by omega) (by first | (rw [prS, if_pos (by omega)] at hR; exact hR) | (rw [prS, if_neg (by omega), if_pos (by omega)] at hR; exact hR) | (rw [prS, if_neg (by omega), if_neg (by omega), if_pos (by omega)] at hR; exact hR) | (rw [prS, if_neg (by omega), if_neg (by omega), if_neg (by omega)] at hR; exact hR))
        · refine z_if_eq (t := 130) d_Mod_pairs_124 (by decide) (by first | omega | exact hw _ | exact hx _ _ | assumption) (fun _ => ?_) (fun h => absurd h (by decide))
          refine z_iinc d_Mod_pairs_130 rfl (by decide) ?_
          show SJ _ _ _ _ [_, _, _, _, _, _, _] _ _ _ _ _
          refine j_goto (t := 8) d_Mod_pairs_133 (by decide) ?_
          refine SJ.mask [true, true, true, true, true, true, false] ?_
          show SJ _ _ _ _ [_, _, _, _, _, _, none] _ _ _ _ _
          first
          | (exfalso; omega)
          | exact ih _ (by omega) _ _ _ _ _ rfl (by omega) (by omega) (by omega) (by first | (intro j h1 h2; by_cases e : j = many; (subst e; rw [up_eq]; omega); (rw [up_ne e]; have := a5 j h1 (by omega); omega)) | (intro j h1 h2; have := a5 j h1 (by omega); omega)) (by omega) (by first | (rw [prS, if_pos (by omega)] at hR; exact hR) | (rw [prS, if_neg (by omega), if_pos (by omega)] at hR; exact hR) | (rw [prS, if_neg (by omega), if_neg (by omega), if_pos (by omega)] at hR; exact hR) | (rw [prS, if_neg (by omega), if_neg (by omega), if_neg (by omega)] at hR; exact hR))
theorem t_Mod_pairs {g : Bool} {d : Nat} {Q : List xM → Option Value → Prop} {i0 i6 i8 i9 i10 i13 i14 i18 i19 i20 i21 i22 i23 i24 i25 i27 i28 i33 i42 i43 i44 i45 i46 i47 i48 i51 i52 : Int} {x1 x2 x3 x4 x5 x7 x11 x12 x15 x16 x17 x26 x29 x30 x31 x32 x34 x35 x36 x37 x38 x39 x40 x41 x49 x50 : Int → Int} {from_ to_ : Int} (f1 : 0 ≤ from_) (f2 : to_ ≤ 20) (f0 : 0 ≤ to_) (hs : ∀ j, 0 ≤ j → j < to_ → 0 ≤ x2 (1 + j) ∧ x2 (1 + j) ≤ 11) (f3 : from_ ≤ 20) (hQ : Q (MM i0 i6 i8 i9 i10 i13 i14 i18 i19 i20 i21 i22 i23 i24 i25 i27 i28 i33 i42 i43 i44 i45 i46 i47 i48 i51 i52 x1 x2 x3 x4 x5 x7 x11 x12 x15 x16 x17 x26 (prR x2 from_ to_ x29 x30).2.2.1 (prR x2 from_ to_ x29 x30).2.2.2 x31 x32 x34 x35 x36 x37 x38 x39 x40 x41 x49 x50) (some (.int (ii ((prR x2 from_ to_ x29 x30).2.1 + (prR x2 from_ to_ x29 x30).1))))) : CT g m_Mod_pairs (d + 2) [.ref 0, .int (ii (from_)), .int (ii (to_))] (MM i0 i6 i8 i9 i10 i13 i14 i18 i19 i20 i21 i22 i23 i24 i25 i27 i28 i33 i42 i43 i44 i45 i46 i47 i48 i51 i52 x1 x2 x3 x4 x5 x7 x11 x12 x15 x16 x17 x26 x29 x30 x31 x32 x34 x35 x36 x37 x38 x39 x40 x41 x49 x50) 0 0 Q := by
  refine CT.of (by decide) (Nat.le_of_ble_eq_true rfl) ?_
  show SJ _ _ _ _ [some (.ref 0), some (.int (ii (from_))), some (.int (ii (to_))), none, none, none, none] [] _ _ _ _
  refine z_iconst d_Mod_pairs_0 ?_
  refine j_istore_n d_Mod_pairs_1 (by decide) ?_
  show SJ _ _ _ _ [_, _, _, _, _, _, _] _ _ _ _ _
  refine z_iconst d_Mod_pairs_2 ?_
  refine j_istore d_Mod_pairs_3 (by decide) ?_
  show SJ _ _ _ _ [_, _, _, _, _, _, _] _ _ _ _ _
  refine j_iload_n d_Mod_pairs_5 rfl ?_
  refine j_istore d_Mod_pairs_6 (by decide) ?_
  show SJ _ _ _ _ [_, _, _, _, _, _, _] _ _ _ _ _
  exact lp_pairs f1 f2 f0 hs hQ _ from_ 0 0 x29 x30 rfl (by omega) (by omega) (by omega) (fun j h1 h2 => by omega) (by omega) rfl
theorem t_Mod_looseMany {g : Bool} {d : Nat} {Q : List xM → Option Value → Prop} {i0 i6 i8 i9 i10 i13 i14 i18 i19 i20 i21 i22 i23 i24 i25 i27 i28 i33 i42 i43 i44 i45 i46 i47 i48 i51 i52 : Int} {x1 x2 x3 x4 x5 x7 x11 x12 x15 x16 x17 x26 x29 x30 x31 x32 x34 x35 x36 x37 x38 x39 x40 x41 x49 x50 : Int → Int} (hn0 : 0 ≤ x2 0) (hn1 : x2 0 ≤ 20) (hs : ∀ j, 0 ≤ j → j < x2 0 → 0 ≤ x2 (1 + j) ∧ x2 (1 + j) ≤ 11) (hQ : Q (MM i0 i6 i8 i9 i10 i13 i14 i18 i19 i20 i21 i22 i23 i24 i25 i27 i28 i33 i42 i43 i44 i45 i46 i47 i48 i51 i52 x1 x2 x3 x4 x5 x7 x11 x12 x15 x16 x17 x26 (prR x2 0 (x2 0) x29 x30).2.2.1 (prR x2 0 (x2 0) x29 x30).2.2.2 x31 x32 x34 x35 x36 x37 x38 x39 x40 x41 x49 x50) (some (.int (ii ((prR x2 0 (x2 0) x29 x30).2.1 + (prR x2 0 (x2 0) x29 x30).1))))) : CT g m_Mod_looseMany (d + 3) [.ref 0] (MM i0 i6 i8 i9 i10 i13 i14 i18 i19 i20 i21 i22 i23 i24 i25 i27 i28 i33 i42 i43 i44 i45 i46 i47 i48 i51 i52 x1 x2 x3 x4 x5 x7 x11 x12 x15 x16 x17 x26 x29 x30 x31 x32 x34 x35 x36 x37 x38 x39 x40 x41 x49 x50) 0 0 Q := by
  refine CT.of (by decide) (Nat.le_of_ble_eq_true rfl) ?_
  show SJ _ _ _ _ [some (.ref 0)] [] _ _ _ _
  refine j_aload_n d_Mod_looseMany_0 rfl ?_
  refine z_iconst d_Mod_looseMany_1 ?_
  refine j_aload_n d_Mod_looseMany_2 rfl ?_
  refine v_call0 d_Mod_looseMany_3 c_Mod_125 rfl ⟨_, rfl, rfl⟩ (Nat.le_of_ble_eq_true rfl) (t_Mod_length  ?_)
  refine v_call2 d_Mod_looseMany_6 c_Mod_336 rfl ⟨_, rfl, rfl⟩ (Nat.le_of_ble_eq_true rfl) (t_Mod_pairs (by omega) (by omega) (by omega) hs (by omega) ?_)
  exact z_iret rfl d_Mod_looseMany_9 (by first | rfl | omega | simp_all) hQ
theorem t_Mod_isWhole {g : Bool} {d : Nat} {Q : List xM → Option Value → Prop} {i0 i6 i8 i9 i10 i13 i14 i18 i19 i20 i21 i22 i23 i24 i25 i27 i28 i33 i42 i43 i44 i45 i46 i47 i48 i51 i52 : Int} {x1 x2 x3 x4 x5 x7 x11 x12 x15 x16 x17 x26 x29 x30 x31 x32 x34 x35 x36 x37 x38 x39 x40 x41 x49 x50 : Int → Int} {from_ to_ : Int} (f1 : 0 ≤ from_) (f2 : to_ ≤ 20) (f0 : 0 ≤ to_) (hs : ∀ j, 0 ≤ j → j < to_ → 0 ≤ x2 (1 + j) ∧ x2 (1 + j) ≤ 11) (f3 : from_ ≤ 20) (ht : (prR x2 from_ to_ x29 x30).2.1 + (prR x2 from_ to_ x29 x30).1 = 0 → Q (MM i0 i6 i8 i9 i10 i13 i14 i18 i19 i20 i21 i22 i23 i24 i25 i27 i28 i33 i42 i43 i44 i45 i46 i47 i48 i51 i52 x1 x2 x3 x4 x5 x7 x11 x12 x15 x16 x17 x26 (prR x2 from_ to_ x29 x30).2.2.1 (prR x2 from_ to_ x29 x30).2.2.2 x31 x32 x34 x35 x36 x37 x38 x39 x40 x41 x49 x50) (some (.int (ii 1)))) (hf : ¬ ((prR x2 from_ to_ x29 x30).2.1 + (prR x2 from_ to_ x29 x30).1 = 0) → Q (MM i0 i6 i8 i9 i10 i13 i14 i18 i19 i20 i21 i22 i23 i24 i25 i27 i28 i33 i42 i43 i44 i45 i46 i47 i48 i51 i52 x1 x2 x3 x4 x5 x7 x11 x12 x15 x16 x17 x26 (prR x2 from_ to_ x29 x30).2.2.1 (prR x2 from_ to_ x29 x30).2.2.2 x31 x32 x34 x35 x36 x37 x38 x39 x40 x41 x49 x50) (some (.int (ii 0)))) : CT g m_Mod_isWhole (d + 3) [.ref 0, .int (ii (from_)), .int (ii (to_))] (MM i0 i6 i8 i9 i10 i13 i14 i18 i19 i20 i21 i22 i23 i24 i25 i27 i28 i33 i42 i43 i44 i45 i46 i47 i48 i51 i52 x1 x2 x3 x4 x5 x7 x11 x12 x15 x16 x17 x26 x29 x30 x31 x32 x34 x35 x36 x37 x38 x39 x40 x41 x49 x50) 0 0 Q := by
  refine CT.of (by decide) (Nat.le_of_ble_eq_true rfl) ?_
  show SJ _ _ _ _ [some (.ref 0), some (.int (ii (from_))), some (.int (ii (to_)))] [] _ _ _ _
  refine j_aload_n d_Mod_isWhole_0 rfl ?_
  refine j_iload_n d_Mod_isWhole_1 rfl ?_
  refine j_iload_n d_Mod_isWhole_2 rfl ?_
  refine v_call2 d_Mod_isWhole_3 c_Mod_336 rfl ⟨_, rfl, rfl⟩ (Nat.le_of_ble_eq_true rfl) (t_Mod_pairs f1 f2 f0 hs f3 ?_)
  have hR := prR_R (K := x2) (po := x29) (op := x30) f1 f2
  refine z_if_ne (t := 13) d_Mod_isWhole_6 (by decide) (by first | omega | exact hw _ | exact hx _ _ | assumption) (fun h6 => ?_) (fun h6 => ?_)
  · refine z_iconst d_Mod_isWhole_13 ?_
    exact z_zreturn rfl (Or.inl rfl) d_Mod_isWhole_14 (hf (by first | omega | simp_all))
  · refine z_iconst d_Mod_isWhole_9 ?_
    refine j_goto (t := 14) d_Mod_isWhole_10 (by decide) ?_
    exact z_zreturn rfl (Or.inr rfl) d_Mod_isWhole_14 (ht (by first | omega | simp_all))
theorem lp_deepOf {g : Bool} {d : Nat} {Q : List xM → Option Value → Prop} {i0 i6 i8 i9 i10 i13 i14 i18 i19 i20 i21 i22 i23 i24 i25 i27 i28 i33 i42 i43 i44 i45 i46 i47 i48 i51 i52 : Int} {x1 x2 x3 x4 x5 x7 x11 x12 x15 x16 x17 x26 x29 x30 x31 x32 x34 x35 x36 x37 x38 x39 x40 x41 x49 x50 : Int → Int} {p : Int} (h1 : 0 ≤ p) (h2 : p < 20) (hm : ∀ j, 0 ≤ j → j < p → R32 (x29 j)) (hQ : Q (MM i0 i6 i8 i9 i10 i13 i14 i18 i19 i20 i21 i22 i23 i24 i25 i27 i28 i33 i42 i43 i44 i45 i46 i47 i48 i51 i52 x1 x2 x3 x4 x5 x7 x11 x12 x15 x16 x17 x26 x29 x30 x31 x32 x34 x35 x36 x37 x38 x39 x40 x41 x49 x50) (some (.int (ii (dpc x29 p p.toNat))))) : ∀ (nn : Nat) (q : Int), (p - q).toNat = nn → 0 ≤ q → q ≤ p → SJ g m_Mod_deepOf d 4 [some (.ref 0), some (.int (ii p)), some (.int (ii (dpc x29 p q.toNat))), some (.int (ii q))] [] (MM i0 i6 i8 i9 i10 i13 i14 i18 i19 i20 i21 i22 i23 i24 i25 i27 i28 i33 i42 i43 i44 i45 i46 i47 i48 i51 i52 x1 x2 x3 x4 x5 x7 x11 x12 x15 x16 x17 x26 x29 x30 x31 x32 x34 x35 x36 x37 x38 x39 x40 x41 x49 x50) 0 0 Q := by
  intro nn
  induction nn using Nat.strongRecOn with
  | ind nn ih =>
  intro q hn a1 a2
  refine j_iload_n d_Mod_deepOf_4 rfl ?_
  refine j_iload_n d_Mod_deepOf_5 rfl ?_
  refine z_icmp_ge (t := 33) d_Mod_deepOf_6 (by decide) (by first | omega | exact hw _ | exact hx _ _ | assumption) (by first | omega | exact hw _ | exact hx _ _ | assumption) (fun h6 => ?_) (fun h6 => ?_)
  · have e : q = p := by omega
    subst e
    refine j_iload_n d_Mod_deepOf_33 rfl ?_
    exact z_iret rfl d_Mod_deepOf_34 (by first | rfl | omega | simp_all) hQ
  · refine j_iload_n d_Mod_deepOf_9 rfl ?_
    refine j_aload_n d_Mod_deepOf_10 rfl ?_
    refine mg_pairOf f_Mod_70 d_Mod_deepOf_11 ?_
    refine j_iload_n d_Mod_deepOf_14 rfl ?_
    refine ml_pairOf d_Mod_deepOf_15 (by omega) (by omega) ?_
    refine j_iload_n d_Mod_deepOf_16 rfl ?_
    refine z_icmp_le (t := 24) d_Mod_deepOf_17 (by decide) (by first | exact hm _ (by omega) (by omega) | omega) (by first | exact hm _ (by omega) (by omega) | omega) (fun h17 => ?_) (fun h17 => ?_)
    · refine z_iconst d_Mod_deepOf_24 ?_
      refine z_iadd d_Mod_deepOf_25 ?_
      first
      | rw [show dpc x29 p q.toNat + 1 = dpc x29 p (q + 1).toNat by rw [dpc_s a1, if_pos (by omega)]]
      | rw [show dpc x29 p q.toNat + 0 = dpc x29 p (q + 1).toNat by rw [dpc_s a1, if_neg (by omega)]]
      refine j_istore_n d_Mod_deepOf_26 (by decide) ?_
      show SJ _ _ _ _ [_, _, _, _] _ _ _ _ _
      refine z_iinc d_Mod_deepOf_27 rfl (by decide) ?_
      show SJ _ _ _ _ [_, _, _, _] _ _ _ _ _
      refine j_goto (t := 4) d_Mod_deepOf_30 (by decide) ?_
      exact ih _ (by omega) _ rfl (by omega) (by omega)
    · refine z_iconst d_Mod_deepOf_20 ?_
      refine j_goto (t := 25) d_Mod_deepOf_21 (by decide) ?_
      refine z_iadd d_Mod_deepOf_25 ?_
      first
      | rw [show dpc x29 p q.toNat + 1 = dpc x29 p (q + 1).toNat by rw [dpc_s a1, if_pos (by omega)]]
      | rw [show dpc x29 p q.toNat + 0 = dpc x29 p (q + 1).toNat by rw [dpc_s a1, if_neg (by omega)]]
      refine j_istore_n d_Mod_deepOf_26 (by decide) ?_
      show SJ _ _ _ _ [_, _, _, _] _ _ _ _ _
      refine z_iinc d_Mod_deepOf_27 rfl (by decide) ?_
      show SJ _ _ _ _ [_, _, _, _] _ _ _ _ _
      refine j_goto (t := 4) d_Mod_deepOf_30 (by decide) ?_
      exact ih _ (by omega) _ rfl (by omega) (by omega)
theorem t_Mod_deepOf {g : Bool} {d : Nat} {Q : List xM → Option Value → Prop} {i0 i6 i8 i9 i10 i13 i14 i18 i19 i20 i21 i22 i23 i24 i25 i27 i28 i33 i42 i43 i44 i45 i46 i47 i48 i51 i52 : Int} {x1 x2 x3 x4 x5 x7 x11 x12 x15 x16 x17 x26 x29 x30 x31 x32 x34 x35 x36 x37 x38 x39 x40 x41 x49 x50 : Int → Int} {p : Int} (h1 : 0 ≤ p) (h2 : p < 20) (hm : ∀ j, 0 ≤ j → j < p → R32 (x29 j)) (hQ : Q (MM i0 i6 i8 i9 i10 i13 i14 i18 i19 i20 i21 i22 i23 i24 i25 i27 i28 i33 i42 i43 i44 i45 i46 i47 i48 i51 i52 x1 x2 x3 x4 x5 x7 x11 x12 x15 x16 x17 x26 x29 x30 x31 x32 x34 x35 x36 x37 x38 x39 x40 x41 x49 x50) (some (.int (ii (dpc x29 p p.toNat))))) : CT g m_Mod_deepOf d [.ref 0, .int (ii p)] (MM i0 i6 i8 i9 i10 i13 i14 i18 i19 i20 i21 i22 i23 i24 i25 i27 i28 i33 i42 i43 i44 i45 i46 i47 i48 i51 i52 x1 x2 x3 x4 x5 x7 x11 x12 x15 x16 x17 x26 x29 x30 x31 x32 x34 x35 x36 x37 x38 x39 x40 x41 x49 x50) 0 0 Q := by
  refine CT.of (by decide) (Nat.le_of_ble_eq_true rfl) ?_
  show SJ _ _ _ _ [some (.ref 0), some (.int (ii p)), none, none] [] _ _ _ _
  refine z_iconst d_Mod_deepOf_0 ?_
  refine j_istore_n d_Mod_deepOf_1 (by decide) ?_
  show SJ _ _ _ _ [_, _, _, _] _ _ _ _ _
  refine z_iconst d_Mod_deepOf_2 ?_
  refine j_istore_n d_Mod_deepOf_3 (by decide) ?_
  show SJ _ _ _ _ [_, _, _, _] _ _ _ _ _
  exact lp_deepOf h1 h2 hm hQ _ 0 rfl (by omega) h1
theorem t_Mod_whole {g : Bool} {d : Nat} {Q : List xM → Option Value → Prop} {i0 i6 i8 i9 i10 i13 i14 i18 i19 i20 i21 i22 i23 i24 i25 i27 i28 i33 i42 i43 i44 i45 i46 i47 i48 i51 i52 : Int} {x1 x2 x3 x4 x5 x7 x11 x12 x15 x16 x17 x26 x29 x30 x31 x32 x34 x35 x36 x37 x38 x39 x40 x41 x49 x50 : Int → Int} {a b : Int} (r1 : R32 a) (r2 : R32 b) (hn0 : 0 ≤ x2 0) (hn1 : x2 0 ≤ 20) (hs : ∀ j, 0 ≤ j → j < x2 0 → 0 ≤ x2 (1 + j) ∧ x2 (1 + j) ≤ 11) (ht : ∀ m, 0 ≤ a ∧ a ≤ b ∧ b < x2 0 → m = prR x2 a (b + 1) x29 x30 → m.2.1 + m.1 = 0 → Q (MM i0 i6 i8 i9 i10 i13 i14 i18 i19 i20 i21 i22 i23 i24 i25 i27 i28 i33 i42 i43 i44 i45 i46 i47 i48 i51 i52 x1 x2 x3 x4 x5 x7 x11 x12 x15 x16 x17 x26 m.2.2.1 m.2.2.2 x31 x32 x34 x35 x36 x37 x38 x39 x40 x41 x49 x50) (some (.int (ii 1)))) (hf : ∀ m, 0 ≤ a ∧ a ≤ b ∧ b < x2 0 → m = prR x2 a (b + 1) x29 x30 → ¬ (m.2.1 + m.1 = 0) → Q (MM i0 i6 i8 i9 i10 i13 i14 i18 i19 i20 i21 i22 i23 i24 i25 i27 i28 i33 i42 i43 i44 i45 i46 i47 i48 i51 i52 x1 x2 x3 x4 x5 x7 x11 x12 x15 x16 x17 x26 m.2.2.1 m.2.2.2 x31 x32 x34 x35 x36 x37 x38 x39 x40 x41 x49 x50) (some (.int (ii 0)))) (h3 : ¬ (0 ≤ a ∧ a ≤ b ∧ b < x2 0) → Q (MM i0 i6 i8 i9 i10 i13 i14 i18 i19 i20 i21 i22 i23 i24 i25 i27 i28 i33 i42 i43 i44 i45 i46 i47 i48 i51 i52 x1 x2 x3 x4 x5 x7 x11 x12 x15 x16 x17 x26 x29 x30 x31 x32 x34 x35 x36 x37 x38 x39 x40 x41 x49 x50) (some (.int (ii (-1))))) : CT g m_Mod_whole (d + 4) [.ref 0, .int (ii a), .int (ii b)] (MM i0 i6 i8 i9 i10 i13 i14 i18 i19 i20 i21 i22 i23 i24 i25 i27 i28 i33 i42 i43 i44 i45 i46 i47 i48 i51 i52 x1 x2 x3 x4 x5 x7 x11 x12 x15 x16 x17 x26 x29 x30 x31 x32 x34 x35 x36 x37 x38 x39 x40 x41 x49 x50) 0 0 Q := by
  refine CT.of (by decide) (Nat.le_of_ble_eq_true rfl) ?_
  show SJ _ _ _ _ [some (.ref 0), some (.int (ii a)), some (.int (ii b))] [] _ _ _ _
  refine j_aload_n d_Mod_whole_0 rfl ?_
  refine j_iload_n d_Mod_whole_1 rfl ?_
  refine v_call1 d_Mod_whole_2 c_Mod_339 rfl ⟨_, rfl, rfl⟩ (Nat.le_of_ble_eq_true rfl) (t_Mod_isPlace (by first | omega | exact hw _ | exact hx _ _ | assumption) (by omega) (by omega) (fun h2 => ?_) (fun h2 => ?_))
  · refine z_if_eq (t := 21) d_Mod_whole_5 (by decide) (by first | omega | exact hw _ | exact hx _ _ | assumption) (fun h => absurd h (by decide)) (fun _ => ?_)
    refine j_aload_n d_Mod_whole_8 rfl ?_
    refine j_iload_n d_Mod_whole_9 rfl ?_
    refine v_call1 d_Mod_whole_10 c_Mod_339 rfl ⟨_, rfl, rfl⟩ (Nat.le_of_ble_eq_true rfl) (t_Mod_isPlace (by first | omega | exact hw _ | exact hx _ _ | assumption) (by omega) (by omega) (fun h10 => ?_) (fun h10 => ?_))
    · refine z_if_eq (t := 21) d_Mod_whole_13 (by decide) (by first | omega | exact hw _ | exact hx _ _ | assumption) (fun h => absurd h (by decide)) (fun _ => ?_)
      refine j_iload_n d_Mod_whole_16 rfl ?_
      refine j_iload_n d_Mod_whole_17 rfl ?_
      refine z_icmp_ge (t := 23) d_Mod_whole_18 (by decide) (by first | omega | exact hw _ | exact hx _ _ | assumption) (by first | omega | exact hw _ | exact hx _ _ | assumption) (fun h18 => ?_) (fun h18 => ?_)
      · refine j_aload_n d_Mod_whole_23 rfl ?_
        refine j_iload_n d_Mod_whole_24 rfl ?_
        refine j_iload_n d_Mod_whole_25 rfl ?_
        refine z_iconst d_Mod_whole_26 ?_
        refine z_iadd d_Mod_whole_27 ?_
        refine v_call2 d_Mod_whole_28 c_Mod_348 rfl ⟨_, rfl, rfl⟩ (Nat.le_of_ble_eq_true rfl) (t_Mod_isWhole (by omega) (by omega) (by omega) (fun j h1 h2 => hs j h1 (by omega)) (by omega) (fun h28 => ?_) (fun h28 => ?_))
        · refine z_if_eq (t := 38) d_Mod_whole_31 (by decide) (by first | omega | exact hw _ | exact hx _ _ | assumption) (fun h => absurd h (by decide)) (fun _ => ?_)
          refine z_iconst d_Mod_whole_34 ?_
          refine j_goto (t := 39) d_Mod_whole_35 (by decide) ?_
          first | exact z_iret rfl d_Mod_whole_39 rfl (ht _ (by omega) rfl h28) | exact z_iret rfl d_Mod_whole_39 rfl (hf _ (by omega) rfl h28)
        · refine z_if_eq (t := 38) d_Mod_whole_31 (by decide) (by first | omega | exact hw _ | exact hx _ _ | assumption) (fun _ => ?_) (fun h => absurd h (by decide))
          refine z_iconst d_Mod_whole_38 ?_
          first | exact z_iret rfl d_Mod_whole_39 rfl (ht _ (by omega) rfl h28) | exact z_iret rfl d_Mod_whole_39 rfl (hf _ (by omega) rfl h28)
      · refine z_iconst d_Mod_whole_21 ?_
        exact z_iret rfl d_Mod_whole_22 rfl (h3 (by omega))
    · refine z_if_eq (t := 21) d_Mod_whole_13 (by decide) (by first | omega | exact hw _ | exact hx _ _ | assumption) (fun _ => ?_) (fun h => absurd h (by decide))
      refine z_iconst d_Mod_whole_21 ?_
      exact z_iret rfl d_Mod_whole_22 rfl (h3 (by omega))
  · refine z_if_eq (t := 21) d_Mod_whole_5 (by decide) (by first | omega | exact hw _ | exact hx _ _ | assumption) (fun _ => ?_) (fun h => absurd h (by decide))
    refine z_iconst d_Mod_whole_21 ?_
    exact z_iret rfl d_Mod_whole_22 rfl (h3 (by omega))
