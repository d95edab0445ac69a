theorem lp_nth {g : Bool} {d : Nat} {Q : List xM → Option Value → Prop} {i0 i6 i8 i9 i10 i13 i14 i18 i19 i20 i21 i22 i23 i24 i25 i27 i28 i33 i42 i43 i44 i45 i46 i47 i48 i51 i52 : Int} {x1 x2 x3 x4 x5 x7 x11 x12 x15 x16 x17 x26 x29 x31 x32 x34 x35 x36 x37 x38 x40 x41 x49 x50 : Int → Int} {n k j : Int} (n0 : 1 ≤ n) (n1 : n ≤ 12) (j0 : 0 ≤ j) (j1 : j < 2 * n) (d0 : 1 ≤ x2 22) (d1 : x2 22 ≤ 9) (hz : ∀ a b, 0 ≤ a → a ≤ 2 * n → 0 ≤ b → b ≤ 12 → x38 (14 * a + b) = Wd (x2 22) a b) {r : Int} (hQ : ∀ z30 z39, Q (MM i0 i6 i8 i9 i10 i13 i14 i18 i19 i20 i21 i22 i23 i24 i25 i27 i28 i33 i42 i43 i44 i45 i46 i47 i48 i51 i52 x1 x2 x3 x4 x5 x7 x11 x12 x15 x16 x17 x26 x29 z30 x31 x32 x34 x35 x36 x37 x38 z39 x40 x41 x49 x50) (some (.int (ii r)))) : ∀ (nn : Nat) (p : Int) (rest : Int) (op : Int) (sg : Int) (z30 : Int → Int) (z39 : Int → Int), (j + 1 - p).toNat = nn → 0 ≤ p → p ≤ j + 1 → 0 ≤ op → op ≤ x2 22 → 0 ≤ rest → rest < Wd (x2 22) (2 * n - p) op → (1 ≤ p → z39 (p - 1) = sg) → nsF (x2 22) n (j + 1 - p).toNat p rest op z30 sg = r → SJ g m_Mod_nth (d + 2) 68 [some (.ref 0), some (.int (ii n)), some (.long (ll k)), none, some (.int (ii j)), some (.long (ll rest)), none, some (.int (ii op)), some (.int (ii p)), none, none, none] [] (MM i0 i6 i8 i9 i10 i13 i14 i18 i19 i20 i21 i22 i23 i24 i25 i27 i28 i33 i42 i43 i44 i45 i46 i47 i48 i51 i52 x1 x2 x3 x4 x5 x7 x11 x12 x15 x16 x17 x26 x29 z30 x31 x32 x34 x35 x36 x37 x38 z39 x40 x41 x49 x50) 0 0 Q := by
  intro nn
  induction nn using Nat.strongRecOn with
  | ind nn ih =>
  intro p rest op sg z30 z39 hn p0 p1 o0 o1 q0 q1 sgz hR
  refine j_iload d_Mod_nth_68 rfl ?_
  refine j_iload d_Mod_nth_70 rfl ?_
  refine z_icmp_gt (t := 201) d_Mod_nth_72 (by decide) (by first | omega | exact hw _ | exact hx _ _ | assumption) (by first | omega | exact hw _ | exact hx _ _ | assumption) (fun h72 => ?_) (fun h72 => ?_)
  · have e : p = j + 1 := by omega
    subst e
    rw [show (j + 1 - (j + 1)).toNat = 0 by omega] at hR
    simp only [nsF] at hR
    subst hR
    have hsg := sgz (by omega)
    rw [show j + 1 - 1 = j by omega] at hsg
    refine j_aload_n d_Mod_nth_201 rfl ?_
    refine mg_row0 f_Mod_98 d_Mod_nth_202 ?_
    refine j_iload d_Mod_nth_205 rfl ?_
    refine ml_row0 d_Mod_nth_207 (by omega) (by omega) ?_
    exact z_iret rfl d_Mod_nth_208 hsg (hQ _ _)
  · have hWr := Wd_R (dp := x2 22) (l := 2 * n - p - 1) (o := op + 1) (by omega)
    have hWq := Wd_R (dp := x2 22) (l := 2 * n - p) (o := op) (by omega)
    rw [show (j + 1 - p).toNat = (j + 1 - (p + 1)).toNat + 1 by omega] at hR
    simp only [nsF] at hR
    refine z_iconst d_Mod_nth_75 ?_
    refine j_iload_n d_Mod_nth_76 rfl ?_
    refine z_imul d_Mod_nth_77 ?_
    refine j_iload d_Mod_nth_78 rfl ?_
    refine z_isub d_Mod_nth_80 ?_
    refine z_iconst d_Mod_nth_81 ?_
    refine z_isub d_Mod_nth_82 ?_
    refine j_istore d_Mod_nth_83 (by decide) ?_
    show SJ _ _ _ _ [_, _, _, _, _, _, _, _, _, _, _, _] _ _ _ _ _
    refine j_iload d_Mod_nth_85 rfl ?_
    refine j_aload_n d_Mod_nth_87 rfl ?_
    refine mg_kept f_Mod_32 d_Mod_nth_88 ?_
    refine z_bipush d_Mod_nth_91 (by decide) ?_
    refine ml_kept d_Mod_nth_93 (by omega) (by omega) ?_
    refine z_icmp_ge (t := 110) d_Mod_nth_94 (by decide) (by first | omega | exact hw _ | exact hx _ _ | assumption) (by first | omega | exact hw _ | exact hx _ _ | assumption) (fun h94 => ?_) (fun h94 => ?_)
    · refine z_lconst (v := 0) d_Mod_nth_110 (by decide) ?_
      have hE : nsE (x2 22) n p op = 0 := by (unfold nsE; rw [if_neg (by omega)])
      rw [← hE]
      refine j_lstore d_Mod_nth_111 (by decide) ?_
      show SJ _ _ _ _ [_, _, _, _, _, _, _, _, _, _, _, _] _ _ _ _ _
      refine j_lload d_Mod_nth_113 rfl ?_
      refine z_ldc2 (w := 3) d_Mod_nth_115 k_Mod_418 (by decide) ?_
      refine j_lload d_Mod_nth_118 rfl ?_
      refine z_lmul d_Mod_nth_120 ?_
      refine z_lcmp_ge (t := 165) d_Mod_nth_121 d_Mod_nth_122 (by decide) (by first | omega | exact hw _ | exact hx _ _ | assumption) (by first | omega | exact hw _ | exact hx _ _ | assumption) (fun h121 => ?_) (fun h121 => ?_)
      · obtain ⟨a1, a2, a3⟩ := ns_2 (by omega) (by omega) o0 o1 q0 q1 (show ¬ rest < 3 * nsE (x2 22) n p op by omega)
        rw [if_neg (show ¬ rest < 3 * nsE (x2 22) n p op by omega)] at hR
        have hom : op + -1 = op - 1 := by omega
        refine j_lload d_Mod_nth_165 rfl ?_
        refine z_ldc2 (w := 3) d_Mod_nth_167 k_Mod_418 (by decide) ?_
        refine j_lload d_Mod_nth_170 rfl ?_
        refine z_lmul d_Mod_nth_172 ?_
        refine z_lsub d_Mod_nth_173 ?_
        refine j_lstore d_Mod_nth_174 (by decide) ?_
        show SJ _ _ _ _ [_, _, _, _, _, _, _, _, _, _, _, _] _ _ _ _ _
        refine z_iinc d_Mod_nth_176 rfl (by decide) ?_
        show SJ _ _ _ _ [_, _, _, _, _, _, _, _, _, _, _, _] _ _ _ _ _
        rw [hom]
        refine j_aload_n d_Mod_nth_179 rfl ?_
        refine mg_row0 f_Mod_98 d_Mod_nth_180 ?_
        refine j_iload d_Mod_nth_183 rfl ?_
        refine z_iconst d_Mod_nth_185 ?_
        refine j_aload_n d_Mod_nth_186 rfl ?_
        refine mg_open0 f_Mod_73 d_Mod_nth_187 ?_
        refine j_iload d_Mod_nth_190 rfl ?_
        refine ml_open0 d_Mod_nth_192 (by omega) (by omega) ?_
        refine z_iadd d_Mod_nth_193 ?_
        refine ms_row0 d_Mod_nth_194 (by omega) (by omega) ?_
        refine z_iinc d_Mod_nth_195 rfl (by decide) ?_
        show SJ _ _ _ _ [_, _, _, _, _, _, _, _, _, _, _, _] _ _ _ _ _
        refine j_goto (t := 68) d_Mod_nth_198 (by decide) ?_
        refine SJ.mask [true, true, true, true, true, true, true, true, true, false, false, true] ?_
        show SJ _ _ _ _ [_, _, _, none, _, _, none, _, _, none, none, none] _ _ _ _ _
        first
        | exact ih _ (by omega) _ _ _ _ _ _ rfl (by omega) (by omega) (by omega) (by omega) a6 a7 (fun _ => by rw [show p + 1 - 1 = p by omega, up_eq]) hR
        | exact ih _ (by omega) _ _ _ _ _ _ rfl (by omega) (by omega) (by omega) (by omega) a2 a3 (fun _ => by rw [show p + 1 - 1 = p by omega, up_eq]) hR
      · obtain ⟨a1, a2, a3, a4, a5, a6, a7⟩ := ns_1 (by omega) (by omega) o0 o1 q0 q1 h121
        rw [if_pos h121] at hR
        refine j_aload_n d_Mod_nth_125 rfl ?_
        refine mg_row0 f_Mod_98 d_Mod_nth_126 ?_
        refine j_iload d_Mod_nth_129 rfl ?_
        refine j_lload d_Mod_nth_131 rfl ?_
        refine j_lload d_Mod_nth_133 rfl ?_
        refine z_ldiv d_Mod_nth_135 (by omega) (by omega) (by omega) ?_
        refine z_l2i d_Mod_nth_136 (by first | omega | exact hw _ | exact hx _ _ | assumption) ?_
        refine ms_row0 d_Mod_nth_137 (by omega) (by omega) ?_
        refine j_lload d_Mod_nth_138 rfl ?_
        refine j_lload d_Mod_nth_140 rfl ?_
        refine z_lrem d_Mod_nth_142 (by omega) (by omega) (by omega) ?_
        refine j_lstore d_Mod_nth_143 (by decide) ?_
        show SJ _ _ _ _ [_, _, _, _, _, _, _, _, _, _, _, _] _ _ _ _ _
        refine j_aload_n d_Mod_nth_145 rfl ?_
        refine mg_open0 f_Mod_73 d_Mod_nth_146 ?_
        refine j_iload d_Mod_nth_149 rfl ?_
        refine j_aload_n d_Mod_nth_151 rfl ?_
        refine mg_row0 f_Mod_98 d_Mod_nth_152 ?_
        refine j_iload d_Mod_nth_155 rfl ?_
        refine ml_row0 d_Mod_nth_157 (by omega) (by omega) ?_
        rw [up_eq]
        refine ms_open0 d_Mod_nth_158 (by omega) (by omega) ?_
        refine z_iinc d_Mod_nth_159 rfl (by decide) ?_
        show SJ _ _ _ _ [_, _, _, _, _, _, _, _, _, _, _, _] _ _ _ _ _
        refine j_goto (t := 195) d_Mod_nth_162 (by decide) ?_
        refine z_iinc d_Mod_nth_195 rfl (by decide) ?_
        show SJ _ _ _ _ [_, _, _, _, _, _, _, _, _, _, _, _] _ _ _ _ _
        refine j_goto (t := 68) d_Mod_nth_198 (by decide) ?_
        refine SJ.mask [true, true, true, true, true, true, true, true, true, false, false, true] ?_
        show SJ _ _ _ _ [_, _, _, none, _, _, none, _, _, none, none, none] _ _ _ _ _
        first
        | exact ih _ (by omega) _ _ _ _ _ _ rfl (by omega) (by omega) (by omega) (by omega) a6 a7 (fun _ => by rw [show p + 1 - 1 = p by omega, up_eq]) hR
        | exact ih _ (by omega) _ _ _ _ _ _ rfl (by omega) (by omega) (by omega) (by omega) a2 a3 (fun _ => by rw [show p + 1 - 1 = p by omega, up_eq]) hR
    · refine j_aload_n d_Mod_nth_97 rfl ?_
      refine j_iload d_Mod_nth_98 rfl ?_
      refine j_iload d_Mod_nth_100 rfl ?_
      refine z_iconst d_Mod_nth_102 ?_
      refine z_iadd d_Mod_nth_103 ?_
      refine v_call2 d_Mod_nth_104 c_Mod_414 rfl ⟨_, rfl, rfl⟩ (Nat.le_of_ble_eq_true rfl) (t_Mod_goOn (by omega) (by omega) (by omega) (fun h104 => ?_) (fun h104 => absurd (show 0 ≤ op + 1 ∧ op + 1 ≤ 12 by omega) h104))
      refine j_goto (t := 111) d_Mod_nth_107 (by decide) ?_
      rw [show x38 (14 * (2 * n - p - 1) + (op + 1)) = nsE (x2 22) n p op by (unfold nsE; rw [if_pos (by omega)]; exact hz _ _ (by omega) (by omega) (by omega) (by omega))]
      have hE : nsE (x2 22) n p op = Wd (x2 22) (2 * n - p - 1) (op + 1) := by (unfold nsE; rw [if_pos (by omega)])
      refine j_lstore d_Mod_nth_111 (by decide) ?_
      show SJ _ _ _ _ [_, _, _, _, _, _, _, _, _, _, _, _] _ _ _ _ _
      refine j_lload d_Mod_nth_113 rfl ?_
      refine z_ldc2 (w := 3) d_Mod_nth_115 k_Mod_418 (by decide) ?_
      refine j_lload d_Mod_nth_118 rfl ?_
      refine z_lmul d_Mod_nth_120 ?_
      refine z_lcmp_ge (t := 165) d_Mod_nth_121 d_Mod_nth_122 (by decide) (by first | omega | exact hw _ | exact hx _ _ | assumption) (by first | omega | exact hw _ | exact hx _ _ | assumption) (fun h121 => ?_) (fun h121 => ?_)
      · obtain ⟨a1, a2, a3⟩ := ns_2 (by omega) (by omega) o0 o1 q0 q1 (show ¬ rest < 3 * nsE (x2 22) n p op by omega)
        rw [if_neg (show ¬ rest < 3 * nsE (x2 22) n p op by omega)] at hR
        have hom : op + -1 = op - 1 := by omega
        refine j_lload d_Mod_nth_165 rfl ?_
        refine z_ldc2 (w := 3) d_Mod_nth_167 k_Mod_418 (by decide) ?_
        refine j_lload d_Mod_nth_170 rfl ?_
        refine z_lmul d_Mod_nth_172 ?_
        refine z_lsub d_Mod_nth_173 ?_
        refine j_lstore d_Mod_nth_174 (by decide) ?_
        show SJ _ _ _ _ [_, _, _, _, _, _, _, _, _, _, _, _] _ _ _ _ _
        refine z_iinc d_Mod_nth_176 rfl (by decide) ?_
        show SJ _ _ _ _ [_, _, _, _, _, _, _, _, _, _, _, _] _ _ _ _ _
        rw [hom]
        refine j_aload_n d_Mod_nth_179 rfl ?_
        refine mg_row0 f_Mod_98 d_Mod_nth_180 ?_
        refine j_iload d_Mod_nth_183 rfl ?_
        refine z_iconst d_Mod_nth_185 ?_
        refine j_aload_n d_Mod_nth_186 rfl ?_
        refine mg_open0 f_Mod_73 d_Mod_nth_187 ?_
        refine j_iload d_Mod_nth_190 rfl ?_
        refine ml_open0 d_Mod_nth_192 (by omega) (by omega) ?_
        refine z_iadd d_Mod_nth_193 ?_
        refine ms_row0 d_Mod_nth_194 (by omega) (by omega) ?_
        refine z_iinc d_Mod_nth_195 rfl (by decide) ?_
        show SJ _ _ _ _ [_, _, _, _, _, _, _, _, _, _, _, _] _ _ _ _ _
        refine j_goto (t := 68) d_Mod_nth_198 (by decide) ?_
        refine SJ.mask [true, true, true, true, true, true, true, true, true, false, false, true] ?_
        show SJ _ _ _ _ [_, _, _, none, _, _, none, _, _, none, none, none] _ _ _ _ _
        first
        | exact ih _ (by omega) _ _ _ _ _ _ rfl (by omega) (by omega) (by omega) (by omega) a6 a7 (fun _ => by rw [show p + 1 - 1 = p by omega, up_eq]) hR
        | exact ih _ (by omega) _ _ _ _ _ _ rfl (by omega) (by omega) (by omega) (by omega) a2 a3 (fun _ => by rw [show p + 1 - 1 = p by omega, up_eq]) hR
      · obtain ⟨a1, a2, a3, a4, a5, a6, a7⟩ := ns_1 (by omega) (by omega) o0 o1 q0 q1 h121
        rw [if_pos h121] at hR
        refine j_aload_n d_Mod_nth_125 rfl ?_
        refine mg_row0 f_Mod_98 d_Mod_nth_126 ?_
        refine j_iload d_Mod_nth_129 rfl ?_
        refine j_lload d_Mod_nth_131 rfl ?_
        refine j_lload d_Mod_nth_133 rfl ?_
        refine z_ldiv d_Mod_nth_135 (by omega) (by omega) (by omega) ?_
        refine z_l2i d_Mod_nth_136 (by first | omega | exact hw _ | exact hx _ _ | assumption) ?_
        refine ms_row0 d_Mod_nth_137 (by omega) (by omega) ?_
        refine j_lload d_Mod_nth_138 rfl ?_
        refine j_lload d_Mod_nth_140 rfl ?_
        refine z_lrem d_Mod_nth_142 (by omega) (by omega) (by omega) ?_
        refine j_lstore d_Mod_nth_143 (by decide) ?_
        show SJ _ _ _ _ [_, _, _, _, _, _, _, _, _, _, _, _] _ _ _ _ _
        refine j_aload_n d_Mod_nth_145 rfl ?_
        refine mg_open0 f_Mod_73 d_Mod_nth_146 ?_
        refine j_iload d_Mod_nth_149 rfl ?_
        refine j_aload_n d_Mod_nth_151 rfl ?_
        refine mg_row0 f_Mod_98 d_Mod_nth_152 ?_
        refine j_iload d_Mod_nth_155 rfl ?_
        refine ml_row0 d_Mod_nth_157 (by omega) (by omega) ?_
        rw [up_eq]
        refine ms_open0 d_Mod_nth_158 (by omega) (by omega) ?_
        refine z_iinc d_Mod_nth_159 rfl (by decide) ?_
        show SJ _ _ _ _ [_, _, _, _, _, _, _, _, _, _, _, _] _ _ _ _ _
        refine j_goto (t := 195) d_Mod_nth_162 (by decide) ?_
        refine z_iinc d_Mod_nth_195 rfl (by decide) ?_
        show SJ _ _ _ _ [_, _, _, _, _, _, _, _, _, _, _, _] _ _ _ _ _
        refine j_goto (t := 68) d_Mod_nth_198 (by decide) ?_
        refine SJ.mask [true, true, true, true, true, true, true, true, true, false, false, true] ?_
        show SJ _ _ _ _ [_, _, _, none, _, _, none, _, _, none, none, none] _ _ _ _ _
        first
        | exact ih _ (by omega) _ _ _ _ _ _ rfl (by omega) (by omega) (by omega) (by omega) a6 a7 (fun _ => by rw [show p + 1 - 1 = p by omega, up_eq]) hR
        | exact ih _ (by omega) _ _ _ _ _ _ rfl (by omega) (by omega) (by omega) (by omega) a2 a3 (fun _ => by rw [show p + 1 - 1 = p by omega, up_eq]) hR
theorem t_Mod_nth {g : Bool} {d : Nat} {Q : List xM → Option Value → Prop} {i0 i6 i8 i9 i10 i13 i14 i18 i19 i20 i21 i22 i23 i24 i25 i27 i28 i33 i42 i43 i44 i45 i46 i47 i48 i51 i52 : Int} {x1 x2 x3 x4 x5 x7 x11 x12 x15 x16 x17 x26 x29 x30 x31 x32 x34 x35 x36 x37 x38 x39 x40 x41 x49 x50 : Int → Int} {n k j : Int} (r1 : R32 n) (r2 : R64 k) (r3 : R32 j) (d0 : 1 ≤ x2 22) (d1 : x2 22 ≤ 9) (hnx : ¬ ((1 ≤ n ∧ n ≤ 12) ∧ 0 ≤ k ∧ (0 ≤ j ∧ j < 2 * n)) → Q (MM i0 i6 i8 i9 i10 i13 i14 i18 i19 i20 i21 i22 i23 i24 i25 i27 i28 i33 i42 i43 i44 i45 i46 i47 i48 i51 i52 x1 x2 x3 x4 x5 x7 x11 x12 x15 x16 x17 x26 x29 x30 x31 x32 x34 x35 x36 x37 x38 x39 x40 x41 x49 x50) (some (.int (ii (-1))))) (hQ : (1 ≤ n ∧ n ≤ 12) ∧ 0 ≤ k ∧ (0 ≤ j ∧ j < 2 * n) → ∀ z30 z38 z39, Q (MM i0 i6 i8 i9 i10 i13 i14 i18 i19 i20 i21 i22 i23 i24 i25 i27 i28 i33 i42 i43 i44 i45 i46 i47 i48 i51 i52 x1 x2 x3 x4 x5 x7 x11 x12 x15 x16 x17 x26 x29 z30 x31 x32 x34 x35 x36 x37 z38 z39 x40 x41 x49 x50) (some (.int (ii (nsR x2 n k j))))) : CT g m_Mod_nth (d + 2) [.ref 0, .int (ii n), .long (ll k), .int (ii j)] (MM i0 i6 i8 i9 i10 i13 i14 i18 i19 i20 i21 i22 i23 i24 i25 i27 i28 i33 i42 i43 i44 i45 i46 i47 i48 i51 i52 x1 x2 x3 x4 x5 x7 x11 x12 x15 x16 x17 x26 x29 x30 x31 x32 x34 x35 x36 x37 x38 x39 x40 x41 x49 x50) 0 0 Q := by
  refine CT.of (by decide) (Nat.le_of_ble_eq_true rfl) ?_
  show SJ _ _ _ _ [some (.ref 0), some (.int (ii n)), some (.long (ll k)), none, some (.int (ii j)), none, none, none, none, none, none, none] [] _ _ _ _
  refine j_iload_n d_Mod_nth_0 rfl ?_
  refine z_iconst d_Mod_nth_1 ?_
  refine z_bipush d_Mod_nth_2 (by decide) ?_
  refine s_call3 d_Mod_nth_4 c_Mod_18 (Nat.le_of_ble_eq_true rfl) (t_Mod_lies (by first | omega | exact hw _ | exact hx _ _ | assumption) (by first | omega | exact hw _ | exact hx _ _ | assumption) (by first | omega | exact hw _ | exact hx _ _ | assumption) (fun h4 => ?_) (fun h4 => ?_))
  · refine z_if_eq (t := 30) d_Mod_nth_7 (by decide) (by first | omega | exact hw _ | exact hx _ _ | assumption) (fun h => absurd h (by decide)) (fun _ => ?_)
    refine j_lload_n d_Mod_nth_10 rfl ?_
    refine z_lconst (v := 0) d_Mod_nth_11 (by decide) ?_
    refine z_lcmp_lt (t := 30) d_Mod_nth_12 d_Mod_nth_13 (by decide) (by first | omega | exact hw _ | exact hx _ _ | assumption) (by first | omega | exact hw _ | exact hx _ _ | assumption) (fun h12 => ?_) (fun h12 => ?_)
    · refine z_iconst d_Mod_nth_30 ?_
      exact z_iret rfl d_Mod_nth_31 rfl (hnx (by omega))
    · refine j_iload d_Mod_nth_16 rfl ?_
      refine z_iconst d_Mod_nth_18 ?_
      refine z_iconst d_Mod_nth_19 ?_
      refine j_iload_n d_Mod_nth_20 rfl ?_
      refine z_imul d_Mod_nth_21 ?_
      refine z_iconst d_Mod_nth_22 ?_
      refine z_isub d_Mod_nth_23 ?_
      refine s_call3 d_Mod_nth_24 c_Mod_18 (Nat.le_of_ble_eq_true rfl) (t_Mod_lies (by first | omega | exact hw _ | exact hx _ _ | assumption) (by first | omega | exact hw _ | exact hx _ _ | assumption) (by first | omega | exact hw _ | exact hx _ _ | assumption) (fun h24 => ?_) (fun h24 => ?_))
      · refine z_if_ne (t := 32) d_Mod_nth_27 (by decide) (by first | omega | exact hw _ | exact hx _ _ | assumption) (fun _ => ?_) (fun h => absurd h (by decide))
        refine j_aload_n d_Mod_nth_32 rfl ?_
        refine j_iload_n d_Mod_nth_33 rfl ?_
        refine j_aload_n d_Mod_nth_34 rfl ?_
        refine mg_kept f_Mod_32 d_Mod_nth_35 ?_
        refine z_bipush d_Mod_nth_38 (by decide) ?_
        refine ml_kept d_Mod_nth_40 (by omega) (by omega) ?_
        refine v_call2 d_Mod_nth_41 c_Mod_422 rfl ⟨_, rfl, rfl⟩ (Nat.le_of_ble_eq_true rfl) (t_Mod_laysRows (by omega) (by omega) (by omega) (by omega) (fun z hz => ?_))
        refine j_lload_n d_Mod_nth_44 rfl ?_
        refine j_aload_n d_Mod_nth_45 rfl ?_
        refine z_iconst d_Mod_nth_46 ?_
        refine j_iload_n d_Mod_nth_47 rfl ?_
        refine z_imul d_Mod_nth_48 ?_
        refine z_iconst d_Mod_nth_49 ?_
        refine v_call2 d_Mod_nth_50 c_Mod_414 rfl ⟨_, rfl, rfl⟩ (Nat.le_of_ble_eq_true rfl) (t_Mod_goOn (by omega) (by omega) (by omega) (fun h50 => ?_) (fun h50 => absurd (show (0 : Int) ≤ 0 ∧ (0 : Int) ≤ 12 by omega) h50))
        have hW0 := Wd_R (dp := x2 22) (l := 2 * n) (o := 0) (by omega)
        rw [hz (2 * n) 0 (by omega) (by omega) (by omega) (by omega)]
        refine z_lcmp_lt (t := 59) d_Mod_nth_53 d_Mod_nth_54 (by decide) (by first | omega | exact hw _ | exact hx _ _ | assumption) (by first | omega | exact hw _ | exact hx _ _ | assumption) (fun h53 => ?_) (fun h53 => ?_)
        · refine j_lload_n d_Mod_nth_59 rfl ?_
          refine j_lstore d_Mod_nth_60 (by decide) ?_
          show SJ _ _ _ _ [_, _, _, _, _, _, _, _, _, _, _, _] _ _ _ _ _
          refine z_iconst d_Mod_nth_62 ?_
          refine j_istore d_Mod_nth_63 (by decide) ?_
          show SJ _ _ _ _ [_, _, _, _, _, _, _, _, _, _, _, _] _ _ _ _ _
          refine z_iconst d_Mod_nth_65 ?_
          refine j_istore d_Mod_nth_66 (by decide) ?_
          show SJ _ _ _ _ [_, _, _, _, _, _, _, _, _, _, _, _] _ _ _ _ _
          refine lp_nth (n := n) (k := k) (j := j) (by omega) (by omega) (by omega) (by omega) d0 d1 hz (fun z30 z39 => hQ ⟨by omega, by omega, by omega⟩ _ _ _) _ 0 k 0 (-1) _ _ rfl (by omega) (by omega) (by omega) (by omega) (by omega) (by rw [show 2 * n - 0 = 2 * n by omega]; omega) (fun q => by omega) ?_
          unfold nsR
          rw [if_neg (by omega)]
          exact nsF_op (by omega) _ _ _ _ _ _ _ (by omega) (by omega) (by omega) (by omega) (by rw [show 2 * n - 0 = 2 * n by omega]; omega) (fun i i0 i1 => by omega)
        · refine z_iconst d_Mod_nth_57 ?_
          exact z_iret rfl d_Mod_nth_58 (by unfold nsR; rw [if_pos (by omega)]) (hQ ⟨by omega, by omega, by omega⟩ _ _ _)
      · refine z_if_ne (t := 32) d_Mod_nth_27 (by decide) (by first | omega | exact hw _ | exact hx _ _ | assumption) (fun h => absurd h (by decide)) (fun _ => ?_)
        refine z_iconst d_Mod_nth_30 ?_
        exact z_iret rfl d_Mod_nth_31 rfl (hnx (by omega))
  · refine z_if_eq (t := 30) d_Mod_nth_7 (by decide) (by first | omega | exact hw _ | exact hx _ _ | assumption) (fun _ => ?_) (fun h => absurd h (by decide))
    refine z_iconst d_Mod_nth_30 ?_
    exact z_iret rfl d_Mod_nth_31 rfl (hnx (by omega))
theorem lp_hasRank {g : Bool} {d : Nat} {Q : List xM → Option Value → Prop} {i0 i6 i8 i9 i10 i13 i14 i18 i19 i20 i21 i22 i23 i24 i25 i27 i28 i33 i42 i43 i44 i45 i46 i47 i48 i51 i52 : Int} {x1 x2 x3 x4 x5 x7 x11 x12 x15 x16 x17 x26 x29 x30 x31 x32 x34 x35 x36 x37 x38 x39 x40 x41 x49 x50 : Int → Int} (hn0 : 0 ≤ x2 0) (hn1 : x2 0 ≤ 20) (hs : ∀ j, 0 ≤ j → j < x2 0 → 0 ≤ x2 (1 + j) ∧ x2 (1 + j) ≤ 11) (hm : ∀ j, 0 ≤ j → j < x2 0 → R32 (x29 j)) (hdq : ∀ p, 0 ≤ p → p < x2 0 → dpc x29 p p.toNat = dp x2 p) (d0 : 1 ≤ x2 22) (d1 : x2 22 ≤ 9) (ht : hrk x2 → Q (MM i0 i6 i8 i9 i10 i13 i14 i18 i19 i20 i21 i22 i23 i24 i25 i27 i28 i33 i42 i43 i44 i45 i46 i47 i48 i51 i52 x1 x2 x3 x4 x5 x7 x11 x12 x15 x16 x17 x26 x29 x30 x31 x32 x34 x35 x36 x37 x38 x39 x40 x41 x49 x50) (some (.int (ii 1)))) (hf : ¬ (hrk x2) → Q (MM i0 i6 i8 i9 i10 i13 i14 i18 i19 i20 i21 i22 i23 i24 i25 i27 i28 i33 i42 i43 i44 i45 i46 i47 i48 i51 i52 x1 x2 x3 x4 x5 x7 x11 x12 x15 x16 x17 x26 x29 x30 x31 x32 x34 x35 x36 x37 x38 x39 x40 x41 x49 x50) (some (.int (ii 0)))) : ∀ (nn : Nat) (p : Int) (is : Int), (x2 0 - p).toNat = nn → 0 ≤ p → p ≤ x2 0 → Hd ((is = 1 ∧ lo x2 0 (x2 0) = 0 ∧ ∀ k : Nat, (k : Int) < p → x2 (1 + k) < 6 ∧ (3 ≤ x2 (1 + k) ∨ dp x2 k < x2 22)) ∨ (is = 0 ∧ ¬ hrk x2)) → SJ g m_Mod_hasRank (d + 2) 15 [some (.ref 0), some (.int (ii is)), some (.int (ii p))] [] (MM i0 i6 i8 i9 i10 i13 i14 i18 i19 i20 i21 i22 i23 i24 i25 i27 i28 i33 i42 i43 i44 i45 i46 i47 i48 i51 i52 x1 x2 x3 x4 x5 x7 x11 x12 x15 x16 x17 x26 x29 x30 x31 x32 x34 x35 x36 x37 x38 x39 x40 x41 x49 x50) 0 0 Q := by
  intro nn
  induction nn using Nat.strongRecOn with
  | ind nn ih =>
  intro p is hn p0 p1 hI
  have hib : is = 0 ∨ is = 1 := by rcases Hd.out hI with q | q <;> omega
  refine j_iload_n d_Mod_hasRank_15 rfl ?_
  refine j_aload_n d_Mod_hasRank_16 rfl ?_
  refine v_call0 d_Mod_hasRank_17 c_Mod_125 rfl ⟨_, rfl, rfl⟩ (Nat.le_of_ble_eq_true rfl) (t_Mod_length  ?_)
  refine z_icmp_ge (t := 76) d_Mod_hasRank_20 (by decide) (by first | omega | exact hw _ | exact hx _ _ | assumption) (by first | omega | exact hw _ | exact hx _ _ | assumption) (fun h20 => ?_) (fun h20 => ?_)
  · refine j_iload_n d_Mod_hasRank_76 rfl ?_
    rcases Hd.out hI with ⟨rfl, q⟩ | ⟨rfl, q⟩
    · exact z_zreturn rfl (Or.inr rfl) d_Mod_hasRank_77 (ht ⟨q.1, fun k hk2 => q.2 k (by omega)⟩)
    · exact z_zreturn rfl (Or.inl rfl) d_Mod_hasRank_77 (hf q)
  · refine j_iload_n d_Mod_hasRank_23 rfl ?_
    refine z_if_eq (t := 76) d_Mod_hasRank_24 (by decide) (by first | omega | exact hw _ | exact hx _ _ | assumption) (fun h24 => ?_) (fun h24 => ?_)
    · refine j_iload_n d_Mod_hasRank_76 rfl ?_
      rcases Hd.out hI with ⟨rfl, q⟩ | ⟨rfl, q⟩
      · exact z_zreturn rfl (Or.inr rfl) d_Mod_hasRank_77 (ht ⟨q.1, fun k hk2 => q.2 k (by omega)⟩)
      · exact z_zreturn rfl (Or.inl rfl) d_Mod_hasRank_77 (hf q)
    · have hsp := hs p (by omega) (by omega)
      have hal := ((Hd.out hI).resolve_right (fun q => by omega)).2
      refine j_aload_n d_Mod_hasRank_27 rfl ?_
      refine j_iload_n d_Mod_hasRank_28 rfl ?_
      refine v_call1 d_Mod_hasRank_29 c_Mod_324 rfl ⟨_, rfl, rfl⟩ (Nat.le_of_ble_eq_true rfl) (t_Mod_signAt (by omega) (by omega) ?_)
      refine s_call1 d_Mod_hasRank_32 c_Mod_22 (Nat.le_of_ble_eq_true rfl) (t_Mod_isName (by first | omega | exact hw _ | exact hx _ _ | assumption) (fun h32 => ?_) (fun h32 => ?_))
      · refine z_if_ne (t := 68) d_Mod_hasRank_35 (by decide) (by first | omega | exact hw _ | exact hx _ _ | assumption) (fun _ => ?_) (fun h => absurd h (by decide))
        refine z_iconst d_Mod_hasRank_68 ?_
        refine j_istore_n d_Mod_hasRank_69 (by decide) ?_
        show SJ _ _ _ _ [_, _, _] _ _ _ _ _
        refine z_iinc d_Mod_hasRank_70 rfl (by decide) ?_
        show SJ _ _ _ _ [_, _, _] _ _ _ _ _
        refine j_goto (t := 15) d_Mod_hasRank_73 (by decide) ?_
        first
        | exact ih _ (by omega) _ _ rfl (by omega) (by omega) (Or.inl ⟨rfl, hal.1, fun k hk2 => by by_cases e : (k : Int) = p; (rw [e]; first | exact ⟨by omega, Or.inl (by omega)⟩ | exact ⟨by omega, Or.inr (by rw [← hdq p (by omega) (by omega)]; omega)⟩); exact hal.2 k (by omega)⟩)
        | exact ih _ (by omega) _ _ rfl (by omega) (by omega) (Or.inr ⟨rfl, fun qq => by have q1 := qq.2 p.toNat (by omega); rw [Int.toNat_of_nonneg (by omega)] at q1; first | omega | (rw [← hdq p (by omega) (by omega)] at q1; omega)⟩)
      · refine z_if_ne (t := 68) d_Mod_hasRank_35 (by decide) (by first | omega | exact hw _ | exact hx _ _ | assumption) (fun h => absurd h (by decide)) (fun _ => ?_)
        refine j_aload_n d_Mod_hasRank_38 rfl ?_
        refine j_iload_n d_Mod_hasRank_39 rfl ?_
        refine v_call1 d_Mod_hasRank_40 c_Mod_324 rfl ⟨_, rfl, rfl⟩ (Nat.le_of_ble_eq_true rfl) (t_Mod_signAt (by omega) (by omega) ?_)
        refine s_call1 d_Mod_hasRank_43 c_Mod_333 (Nat.le_of_ble_eq_true rfl) (t_Mod_closes0 (by first | omega | exact hw _ | exact hx _ _ | assumption) (fun h43 => ?_) (fun h43 => ?_))
        · refine z_if_ne (t := 64) d_Mod_hasRank_46 (by decide) (by first | omega | exact hw _ | exact hx _ _ | assumption) (fun _ => ?_) (fun h => absurd h (by decide))
          refine z_iconst d_Mod_hasRank_64 ?_
          refine j_goto (t := 69) d_Mod_hasRank_65 (by decide) ?_
          refine j_istore_n d_Mod_hasRank_69 (by decide) ?_
          show SJ _ _ _ _ [_, _, _] _ _ _ _ _
          refine z_iinc d_Mod_hasRank_70 rfl (by decide) ?_
          show SJ _ _ _ _ [_, _, _] _ _ _ _ _
          refine j_goto (t := 15) d_Mod_hasRank_73 (by decide) ?_
          first
          | exact ih _ (by omega) _ _ rfl (by omega) (by omega) (Or.inl ⟨rfl, hal.1, fun k hk2 => by by_cases e : (k : Int) = p; (rw [e]; first | exact ⟨by omega, Or.inl (by omega)⟩ | exact ⟨by omega, Or.inr (by rw [← hdq p (by omega) (by omega)]; omega)⟩); exact hal.2 k (by omega)⟩)
          | exact ih _ (by omega) _ _ rfl (by omega) (by omega) (Or.inr ⟨rfl, fun qq => by have q1 := qq.2 p.toNat (by omega); rw [Int.toNat_of_nonneg (by omega)] at q1; first | omega | (rw [← hdq p (by omega) (by omega)] at q1; omega)⟩)
        · refine z_if_ne (t := 64) d_Mod_hasRank_46 (by decide) (by first | omega | exact hw _ | exact hx _ _ | assumption) (fun h => absurd h (by decide)) (fun _ => ?_)
          refine j_aload_n d_Mod_hasRank_49 rfl ?_
          refine j_iload_n d_Mod_hasRank_50 rfl ?_
          refine v_call1 d_Mod_hasRank_51 c_Mod_342 rfl ⟨_, rfl, rfl⟩ (Nat.le_of_ble_eq_true rfl) (t_Mod_deepOf (by omega) (by omega) (fun j h1 h2 => hm j h1 (by omega)) ?_)
          have hdr := dpc_R (m := x29) (p := p) p.toNat
          refine j_aload_n d_Mod_hasRank_54 rfl ?_
          refine mg_kept f_Mod_32 d_Mod_hasRank_55 ?_
          refine z_bipush d_Mod_hasRank_58 (by decide) ?_
          refine ml_kept d_Mod_hasRank_60 (by omega) (by omega) ?_
          refine z_icmp_ge (t := 68) d_Mod_hasRank_61 (by decide) (by first | omega | exact hw _ | exact hx _ _ | assumption) (by first | omega | exact hw _ | exact hx _ _ | assumption) (fun h61 => ?_) (fun h61 => ?_)
          · refine z_iconst d_Mod_hasRank_68 ?_
            refine j_istore_n d_Mod_hasRank_69 (by decide) ?_
            show SJ _ _ _ _ [_, _, _] _ _ _ _ _
            refine z_iinc d_Mod_hasRank_70 rfl (by decide) ?_
            show SJ _ _ _ _ [_, _, _] _ _ _ _ _
            refine j_goto (t := 15) d_Mod_hasRank_73 (by decide) ?_
            first
            | exact ih _ (by omega) _ _ rfl (by omega) (by omega) (Or.inl ⟨rfl, hal.1, fun k hk2 => by by_cases e : (k : Int) = p; (rw [e]; first | exact ⟨by omega, Or.inl (by omega)⟩ | exact ⟨by omega, Or.inr (by rw [← hdq p (by omega) (by omega)]; omega)⟩); exact hal.2 k (by omega)⟩)
            | exact ih _ (by omega) _ _ rfl (by omega) (by omega) (Or.inr ⟨rfl, fun qq => by have q1 := qq.2 p.toNat (by omega); rw [Int.toNat_of_nonneg (by omega)] at q1; first | omega | (rw [← hdq p (by omega) (by omega)] at q1; omega)⟩)
          · refine z_iconst d_Mod_hasRank_64 ?_
            refine j_goto (t := 69) d_Mod_hasRank_65 (by decide) ?_
            refine j_istore_n d_Mod_hasRank_69 (by decide) ?_
            show SJ _ _ _ _ [_, _, _] _ _ _ _ _
            refine z_iinc d_Mod_hasRank_70 rfl (by decide) ?_
            show SJ _ _ _ _ [_, _, _] _ _ _ _ _
            refine j_goto (t := 15) d_Mod_hasRank_73 (by decide) ?_
            first
            | exact ih _ (by omega) _ _ rfl (by omega) (by omega) (Or.inl ⟨rfl, hal.1, fun k hk2 => by by_cases e : (k : Int) = p; (rw [e]; first | exact ⟨by omega, Or.inl (by omega)⟩ | exact ⟨by omega, Or.inr (by rw [← hdq p (by omega) (by omega)]; omega)⟩); exact hal.2 k (by omega)⟩)
            | exact ih _ (by omega) _ _ rfl (by omega) (by omega) (Or.inr ⟨rfl, fun qq => by have q1 := qq.2 p.toNat (by omega); rw [Int.toNat_of_nonneg (by omega)] at q1; first | omega | (rw [← hdq p (by omega) (by omega)] at q1; omega)⟩)
theorem t_Mod_hasRank {g : Bool} {d : Nat} {Q : List xM → Option Value → Prop} {i0 i6 i8 i9 i10 i13 i14 i18 i19 i20 i21 i22 i23 i24 i25 i27 i28 i33 i42 i43 i44 i45 i46 i47 i48 i51 i52 : Int} {x1 x2 x3 x4 x5 x7 x11 x12 x15 x16 x17 x26 x29 x30 x31 x32 x34 x35 x36 x37 x38 x39 x40 x41 x49 x50 : Int → Int} (hn0 : 0 ≤ x2 0) (hn1 : x2 0 ≤ 20) (hs : ∀ j, 0 ≤ j → j < x2 0 → 0 ≤ x2 (1 + j) ∧ x2 (1 + j) ≤ 11) (d0 : 1 ≤ x2 22) (d1 : x2 22 ≤ 9) (ht : hrk x2 → ∀ y29 y30, Q (MM i0 i6 i8 i9 i10 i13 i14 i18 i19 i20 i21 i22 i23 i24 i25 i27 i28 i33 i42 i43 i44 i45 i46 i47 i48 i51 i52 x1 x2 x3 x4 x5 x7 x11 x12 x15 x16 x17 x26 y29 y30 x31 x32 x34 x35 x36 x37 x38 x39 x40 x41 x49 x50) (some (.int (ii 1)))) (hf : ¬ hrk x2 → ∀ y29 y30, Q (MM i0 i6 i8 i9 i10 i13 i14 i18 i19 i20 i21 i22 i23 i24 i25 i27 i28 i33 i42 i43 i44 i45 i46 i47 i48 i51 i52 x1 x2 x3 x4 x5 x7 x11 x12 x15 x16 x17 x26 y29 y30 x31 x32 x34 x35 x36 x37 x38 x39 x40 x41 x49 x50) (some (.int (ii 0)))) : CT g m_Mod_hasRank (d + 4) [.ref 0] (MM i0 i6 i8 i9 i10 i13 i14 i18 i19 i20 i21 i22 i23 i24 i25 i27 i28 i33 i42 i43 i44 i45 i46 i47 i48 i51 i52 x1 x2 x3 x4 x5 x7 x11 x12 x15 x16 x17 x26 x29 x30 x31 x32 x34 x35 x36 x37 x38 x39 x40 x41 x49 x50) 0 0 Q := by
  refine CT.of (by decide) (Nat.le_of_ble_eq_true rfl) ?_
  show SJ _ _ _ _ [some (.ref 0), none, none] [] _ _ _ _
  refine j_aload_n d_Mod_hasRank_0 rfl ?_
  refine v_call0 d_Mod_hasRank_1 c_Mod_294 rfl ⟨_, rfl, rfl⟩ (Nat.le_of_ble_eq_true rfl) (t_Mod_looseMany hn0 hn1 hs ?_)
  have hlr := lo_R (K := x2) (a := 0) (b := x2 0) (by omega) (by omega)
  rw [lo_eq x29 x30]
  refine z_if_ne (t := 11) d_Mod_hasRank_4 (by decide) (by first | omega | exact hw _ | exact hx _ _ | assumption) (fun h4 => ?_) (fun h4 => ?_)
  · refine z_iconst d_Mod_hasRank_11 ?_
    refine j_istore_n d_Mod_hasRank_12 (by decide) ?_
    show SJ _ _ _ _ [_, _, _] _ _ _ _ _
    refine z_iconst d_Mod_hasRank_13 ?_
    refine j_istore_n d_Mod_hasRank_14 (by decide) ?_
    show SJ _ _ _ _ [_, _, _] _ _ _ _ _
    refine lp_hasRank hn0 hn1 hs (fun j h1 h2 => by have := mt_R (K := x2) hn1 x29 x30 (q := j) h1 h2; omega) (fun p h1 h2 => dp_eq x29 x30 h1 (by omega)) d0 d1 (fun q => ht q _ _) (fun q => hf q _ _) _ 0 _ rfl (by omega) (by omega) ?_
    first
    | exact Or.inl ⟨rfl, by omega, fun k hk2 => by omega⟩
    | exact Or.inr ⟨rfl, fun q => by have := q.1; omega⟩
  · refine z_iconst d_Mod_hasRank_7 ?_
    refine j_goto (t := 12) d_Mod_hasRank_8 (by decide) ?_
    refine j_istore_n d_Mod_hasRank_12 (by decide) ?_
    show SJ _ _ _ _ [_, _, _] _ _ _ _ _
    refine z_iconst d_Mod_hasRank_13 ?_
    refine j_istore_n d_Mod_hasRank_14 (by decide) ?_
    show SJ _ _ _ _ [_, _, _] _ _ _ _ _
    refine lp_hasRank hn0 hn1 hs (fun j h1 h2 => by have := mt_R (K := x2) hn1 x29 x30 (q := j) h1 h2; omega) (fun p h1 h2 => dp_eq x29 x30 h1 (by omega)) d0 d1 (fun q => ht q _ _) (fun q => hf q _ _) _ 0 _ rfl (by omega) (by omega) ?_
    first
    | exact Or.inl ⟨rfl, by omega, fun k hk2 => by omega⟩
    | exact Or.inr ⟨rfl, fun q => by have := q.1; omega⟩
theorem lp_rank {g : Bool} {d : Nat} {Q : List xM → Option Value → Prop} {i0 i6 i8 i9 i10 i13 i14 i18 i19 i20 i21 i22 i23 i24 i25 i27 i28 i33 i42 i43 i44 i45 i46 i47 i48 i51 i52 : Int} {x1 x2 x3 x4 x5 x7 x11 x12 x15 x16 x17 x26 x29 x30 x31 x32 x34 x35 x36 x37 x38 x39 x40 x41 x49 x50 : Int → Int} (hn0 : 0 ≤ x2 0) (hn1 : x2 0 ≤ 20) (hs : ∀ j, 0 ≤ j → j < x2 0 → 0 ≤ x2 (1 + j) ∧ x2 (1 + j) ≤ 11) (d0 : 1 ≤ x2 22) (d1 : x2 22 ≤ 9) (hz : ∀ a b, 0 ≤ a → a ≤ 2 * (x2 0).tdiv 2 → 0 ≤ b → b ≤ 12 → x38 (14 * a + b) = Wd (x2 22) a b) {r : Int} (hQ : Q (MM i0 i6 i8 i9 i10 i13 i14 i18 i19 i20 i21 i22 i23 i24 i25 i27 i28 i33 i42 i43 i44 i45 i46 i47 i48 i51 i52 x1 x2 x3 x4 x5 x7 x11 x12 x15 x16 x17 x26 x29 x30 x31 x32 x34 x35 x36 x37 x38 x39 x40 x41 x49 x50) (some (.long (ll r)))) : ∀ (nn : Nat) (p : Int) (op : Int) (acc : Int), (x2 0 - p).toNat = nn → 0 ≤ p → p ≤ x2 0 → -p ≤ op → op ≤ p → rkF x2 (x2 0 - p).toNat p op acc = r → SJ g m_Mod_rank (d + 2) 35 [some (.ref 0), some (.long (ll acc)), none, some (.int (ii op)), some (.int (ii p)), none, none, none] [] (MM i0 i6 i8 i9 i10 i13 i14 i18 i19 i20 i21 i22 i23 i24 i25 i27 i28 i33 i42 i43 i44 i45 i46 i47 i48 i51 i52 x1 x2 x3 x4 x5 x7 x11 x12 x15 x16 x17 x26 x29 x30 x31 x32 x34 x35 x36 x37 x38 x39 x40 x41 x49 x50) 0 0 Q := by
  intro nn
  induction nn using Nat.strongRecOn with
  | ind nn ih =>
  intro p op acc hn p0 p1 o0 o1 hR
  have hn2 : x2 0 - 1 ≤ 2 * (x2 0).tdiv 2 ∧ (x2 0).tdiv 2 ≤ 12 ∧ 0 ≤ (x2 0).tdiv 2 := by
    rw [Int.tdiv_eq_ediv_of_nonneg (by omega)]
    omega
  refine j_iload d_Mod_rank_35 rfl ?_
  refine j_aload_n d_Mod_rank_37 rfl ?_
  refine v_call0 d_Mod_rank_38 c_Mod_125 rfl ⟨_, rfl, rfl⟩ (Nat.le_of_ble_eq_true rfl) (t_Mod_length  ?_)
  refine z_icmp_ge (t := 136) d_Mod_rank_41 (by decide) (by first | omega | exact hw _ | exact hx _ _ | assumption) (by first | omega | exact hw _ | exact hx _ _ | assumption) (fun h41 => ?_) (fun h41 => ?_)
  · rw [show (x2 0 - p).toNat = 0 by omega] at hR
    simp only [rkF] at hR
    subst hR
    refine j_lload_n d_Mod_rank_136 rfl ?_
    exact z_lret rfl d_Mod_rank_137 (by first | rfl | omega | simp_all) hQ
  · have hsp := hs p (by omega) (by omega)
    rw [show (x2 0 - p).toNat = (x2 0 - (p + 1)).toNat + 1 by omega] at hR
    simp only [rkF] at hR
    refine j_aload_n d_Mod_rank_44 rfl ?_
    refine v_call0 d_Mod_rank_45 c_Mod_125 rfl ⟨_, rfl, rfl⟩ (Nat.le_of_ble_eq_true rfl) (t_Mod_length  ?_)
    refine j_iload d_Mod_rank_48 rfl ?_
    refine z_isub d_Mod_rank_50 ?_
    refine z_iconst d_Mod_rank_51 ?_
    refine z_isub d_Mod_rank_52 ?_
    refine j_istore d_Mod_rank_53 (by decide) ?_
    show SJ _ _ _ _ [_, _, _, _, _, _, _, _] _ _ _ _ _
    refine j_iload_n d_Mod_rank_55 rfl ?_
    refine j_aload_n d_Mod_rank_56 rfl ?_
    refine mg_kept f_Mod_32 d_Mod_rank_57 ?_
    refine z_bipush d_Mod_rank_60 (by decide) ?_
    refine ml_kept d_Mod_rank_62 (by omega) (by omega) ?_
    refine z_icmp_ge (t := 78) d_Mod_rank_63 (by decide) (by first | omega | exact hw _ | exact hx _ _ | assumption) (by first | omega | exact hw _ | exact hx _ _ | assumption) (fun h63 => ?_) (fun h63 => ?_)
    · refine z_lconst (v := 0) d_Mod_rank_78 (by decide) ?_
      have hE : rkE x2 p op = 0 := by (unfold rkE; first | rw [if_neg (by omega)] | rw [if_pos (by omega), Wd_out (by omega) (by omega) (by omega)])
      rw [← hE]
      refine j_lstore d_Mod_rank_79 (by decide) ?_
      show SJ _ _ _ _ [_, _, _, _, _, _, _, _] _ _ _ _ _
      refine j_lload_n d_Mod_rank_81 rfl ?_
      refine j_lload d_Mod_rank_82 rfl ?_
      refine j_aload_n d_Mod_rank_84 rfl ?_
      refine j_iload d_Mod_rank_85 rfl ?_
      refine v_call1 d_Mod_rank_87 c_Mod_324 rfl ⟨_, rfl, rfl⟩ (Nat.le_of_ble_eq_true rfl) (t_Mod_signAt (by omega) (by omega) ?_)
      refine s_call1 d_Mod_rank_90 c_Mod_312 (Nat.le_of_ble_eq_true rfl) (t_Mod_opens0 (by first | omega | exact hw _ | exact hx _ _ | assumption) (fun h90 => ?_) (fun h90 => ?_))
      · refine z_if_eq (t := 105) d_Mod_rank_93 (by decide) (by first | omega | exact hw _ | exact hx _ _ | assumption) (fun h => absurd h (by decide)) (fun _ => ?_)
        refine j_aload_n d_Mod_rank_96 rfl ?_
        refine j_iload d_Mod_rank_97 rfl ?_
        refine v_call1 d_Mod_rank_99 c_Mod_324 rfl ⟨_, rfl, rfl⟩ (Nat.le_of_ble_eq_true rfl) (t_Mod_signAt (by omega) (by omega) ?_)
        refine j_goto (t := 106) d_Mod_rank_102 (by decide) ?_
        rw [if_pos (by omega), if_pos (by omega)] at hR
        refine z_i2l d_Mod_rank_106 (by first | omega | exact hw _ | exact hx _ _ | assumption) ?_
        refine z_lmul d_Mod_rank_107 ?_
        refine z_ladd d_Mod_rank_108 ?_
        refine j_lstore_n d_Mod_rank_109 (by decide) ?_
        show SJ _ _ _ _ [_, _, _, _, _, _, _, _] _ _ _ _ _
        refine j_iload_n d_Mod_rank_110 rfl ?_
        refine j_aload_n d_Mod_rank_111 rfl ?_
        refine j_iload d_Mod_rank_112 rfl ?_
        refine v_call1 d_Mod_rank_114 c_Mod_324 rfl ⟨_, rfl, rfl⟩ (Nat.le_of_ble_eq_true rfl) (t_Mod_signAt (by omega) (by omega) ?_)
        refine s_call1 d_Mod_rank_117 c_Mod_312 (Nat.le_of_ble_eq_true rfl) (t_Mod_opens0 (by first | omega | exact hw _ | exact hx _ _ | assumption) (fun h117 => ?_) (fun h117 => ?_))
        · refine z_if_eq (t := 127) d_Mod_rank_120 (by decide) (by first | omega | exact hw _ | exact hx _ _ | assumption) (fun h => absurd h (by decide)) (fun _ => ?_)
          refine z_iconst d_Mod_rank_123 ?_
          refine j_goto (t := 128) d_Mod_rank_124 (by decide) ?_
          refine z_iadd d_Mod_rank_128 ?_
          refine j_istore_n d_Mod_rank_129 (by decide) ?_
          show SJ _ _ _ _ [_, _, _, _, _, _, _, _] _ _ _ _ _
          refine z_iinc d_Mod_rank_130 rfl (by decide) ?_
          show SJ _ _ _ _ [_, _, _, _, _, _, _, _] _ _ _ _ _
          refine j_goto (t := 35) d_Mod_rank_133 (by decide) ?_
          refine SJ.mask [true, true, true, true, true, false, false, true] ?_
          show SJ _ _ _ _ [_, _, none, _, _, none, none, none] _ _ _ _ _
          first
          | (exfalso; omega)
          | exact ih _ (by omega) _ _ _ rfl (by omega) (by omega) (by omega) (by omega) hR
        · refine z_if_eq (t := 127) d_Mod_rank_120 (by decide) (by first | omega | exact hw _ | exact hx _ _ | assumption) (fun _ => ?_) (fun h => absurd h (by decide))
          refine z_iconst d_Mod_rank_127 ?_
          refine z_iadd d_Mod_rank_128 ?_
          refine j_istore_n d_Mod_rank_129 (by decide) ?_
          show SJ _ _ _ _ [_, _, _, _, _, _, _, _] _ _ _ _ _
          refine z_iinc d_Mod_rank_130 rfl (by decide) ?_
          show SJ _ _ _ _ [_, _, _, _, _, _, _, _] _ _ _ _ _
          refine j_goto (t := 35) d_Mod_rank_133 (by decide) ?_
          refine SJ.mask [true, true, true, true, true, false, false, true] ?_
          show SJ _ _ _ _ [_, _, none, _, _, none, none, none] _ _ _ _ _
          first
          | (exfalso; omega)
          | exact ih _ (by omega) _ _ _ rfl (by omega) (by omega) (by omega) (by omega) hR
      · refine z_if_eq (t := 105) d_Mod_rank_93 (by decide) (by first | omega | exact hw _ | exact hx _ _ | assumption) (fun _ => ?_) (fun h => absurd h (by decide))
        refine z_iconst d_Mod_rank_105 ?_
        rw [if_neg (by omega), if_neg (by omega)] at hR
        refine z_i2l d_Mod_rank_106 (by first | omega | exact hw _ | exact hx _ _ | assumption) ?_
        refine z_lmul d_Mod_rank_107 ?_
        refine z_ladd d_Mod_rank_108 ?_
        refine j_lstore_n d_Mod_rank_109 (by decide) ?_
        show SJ _ _ _ _ [_, _, _, _, _, _, _, _] _ _ _ _ _
        refine j_iload_n d_Mod_rank_110 rfl ?_
        refine j_aload_n d_Mod_rank_111 rfl ?_
        refine j_iload d_Mod_rank_112 rfl ?_
        refine v_call1 d_Mod_rank_114 c_Mod_324 rfl ⟨_, rfl, rfl⟩ (Nat.le_of_ble_eq_true rfl) (t_Mod_signAt (by omega) (by omega) ?_)
        refine s_call1 d_Mod_rank_117 c_Mod_312 (Nat.le_of_ble_eq_true rfl) (t_Mod_opens0 (by first | omega | exact hw _ | exact hx _ _ | assumption) (fun h117 => ?_) (fun h117 => ?_))
        · refine z_if_eq (t := 127) d_Mod_rank_120 (by decide) (by first | omega | exact hw _ | exact hx _ _ | assumption) (fun h => absurd h (by decide)) (fun _ => ?_)
          refine z_iconst d_Mod_rank_123 ?_
          refine j_goto (t := 128) d_Mod_rank_124 (by decide) ?_
          refine z_iadd d_Mod_rank_128 ?_
          refine j_istore_n d_Mod_rank_129 (by decide) ?_
          show SJ _ _ _ _ [_, _, _, _, _, _, _, _] _ _ _ _ _
          refine z_iinc d_Mod_rank_130 rfl (by decide) ?_
          show SJ _ _ _ _ [_, _, _, _, _, _, _, _] _ _ _ _ _
          refine j_goto (t := 35) d_Mod_rank_133 (by decide) ?_
          refine SJ.mask [true, true, true, true, true, false, false, true] ?_
          show SJ _ _ _ _ [_, _, none, _, _, none, none, none] _ _ _ _ _
          first
          | (exfalso; omega)
          | exact ih _ (by omega) _ _ _ rfl (by omega) (by omega) (by omega) (by omega) hR
        · refine z_if_eq (t := 127) d_Mod_rank_120 (by decide) (by first | omega | exact hw _ | exact hx _ _ | assumption) (fun _ => ?_) (fun h => absurd h (by decide))
          refine z_iconst d_Mod_rank_127 ?_
          refine z_iadd d_Mod_rank_128 ?_
          refine j_istore_n d_Mod_rank_129 (by decide) ?_
          show SJ _ _ _ _ [_, _, _, _, _, _, _, _] _ _ _ _ _
          refine z_iinc d_Mod_rank_130 rfl (by decide) ?_
          show SJ _ _ _ _ [_, _, _, _, _, _, _, _] _ _ _ _ _
          refine j_goto (t := 35) d_Mod_rank_133 (by decide) ?_
          refine SJ.mask [true, true, true, true, true, false, false, true] ?_
          show SJ _ _ _ _ [_, _, none, _, _, none, none, none] _ _ _ _ _
          first
          | (exfalso; omega)
          | exact ih _ (by omega) _ _ _ rfl (by omega) (by omega) (by omega) (by omega) hR
    · refine j_aload_n d_Mod_rank_66 rfl ?_
      refine j_iload d_Mod_rank_67 rfl ?_
      refine j_iload_n d_Mod_rank_69 rfl ?_
      refine z_iconst d_Mod_rank_70 ?_
      refine z_iadd d_Mod_rank_71 ?_
      refine v_call2 d_Mod_rank_72 c_Mod_414 rfl ⟨_, rfl, rfl⟩ (Nat.le_of_ble_eq_true rfl) (t_Mod_goOn (by omega) (by omega) (by omega) (fun h72 => ?_) (fun h72 => ?_))
      · refine j_goto (t := 79) d_Mod_rank_75 (by decide) ?_
        rw [show x38 (14 * (x2 0 - p - 1) + (op + 1)) = rkE x2 p op by (unfold rkE; rw [if_pos (by omega)]; exact hz _ _ (by omega) (by omega) (by omega) (by omega))]
        refine j_lstore d_Mod_rank_79 (by decide) ?_
        show SJ _ _ _ _ [_, _, _, _, _, _, _, _] _ _ _ _ _
        refine j_lload_n d_Mod_rank_81 rfl ?_
        refine j_lload d_Mod_rank_82 rfl ?_
        refine j_aload_n d_Mod_rank_84 rfl ?_
        refine j_iload d_Mod_rank_85 rfl ?_
        refine v_call1 d_Mod_rank_87 c_Mod_324 rfl ⟨_, rfl, rfl⟩ (Nat.le_of_ble_eq_true rfl) (t_Mod_signAt (by omega) (by omega) ?_)
        refine s_call1 d_Mod_rank_90 c_Mod_312 (Nat.le_of_ble_eq_true rfl) (t_Mod_opens0 (by first | omega | exact hw _ | exact hx _ _ | assumption) (fun h90 => ?_) (fun h90 => ?_))
        · refine z_if_eq (t := 105) d_Mod_rank_93 (by decide) (by first | omega | exact hw _ | exact hx _ _ | assumption) (fun h => absurd h (by decide)) (fun _ => ?_)
          refine j_aload_n d_Mod_rank_96 rfl ?_
          refine j_iload d_Mod_rank_97 rfl ?_
          refine v_call1 d_Mod_rank_99 c_Mod_324 rfl ⟨_, rfl, rfl⟩ (Nat.le_of_ble_eq_true rfl) (t_Mod_signAt (by omega) (by omega) ?_)
          refine j_goto (t := 106) d_Mod_rank_102 (by decide) ?_
          rw [if_pos (by omega), if_pos (by omega)] at hR
          refine z_i2l d_Mod_rank_106 (by first | omega | exact hw _ | exact hx _ _ | assumption) ?_
          refine z_lmul d_Mod_rank_107 ?_
          refine z_ladd d_Mod_rank_108 ?_
          refine j_lstore_n d_Mod_rank_109 (by decide) ?_
          show SJ _ _ _ _ [_, _, _, _, _, _, _, _] _ _ _ _ _
          refine j_iload_n d_Mod_rank_110 rfl ?_
          refine j_aload_n d_Mod_rank_111 rfl ?_
          refine j_iload d_Mod_rank_112 rfl ?_
          refine v_call1 d_Mod_rank_114 c_Mod_324 rfl ⟨_, rfl, rfl⟩ (Nat.le_of_ble_eq_true rfl) (t_Mod_signAt (by omega) (by omega) ?_)
          refine s_call1 d_Mod_rank_117 c_Mod_312 (Nat.le_of_ble_eq_true rfl) (t_Mod_opens0 (by first | omega | exact hw _ | exact hx _ _ | assumption) (fun h117 => ?_) (fun h117 => ?_))
          · refine z_if_eq (t := 127) d_Mod_rank_120 (by decide) (by first | omega | exact hw _ | exact hx _ _ | assumption) (fun h => absurd h (by decide)) (fun _ => ?_)
            refine z_iconst d_Mod_rank_123 ?_
            refine j_goto (t := 128) d_Mod_rank_124 (by decide) ?_
            refine z_iadd d_Mod_rank_128 ?_
            refine j_istore_n d_Mod_rank_129 (by decide) ?_
            show SJ _ _ _ _ [_, _, _, _, _, _, _, _] _ _ _ _ _
            refine z_iinc d_Mod_rank_130 rfl (by decide) ?_
            show SJ _ _ _ _ [_, _, _, _, _, _, _, _] _ _ _ _ _
            refine j_goto (t := 35) d_Mod_rank_133 (by decide) ?_
            refine SJ.mask [true, true, true, true, true, false, false, true] ?_
            show SJ _ _ _ _ [_, _, none, _, _, none, none, none] _ _ _ _ _
            first
            | (exfalso; omega)
            | exact ih _ (by omega) _ _ _ rfl (by omega) (by omega) (by omega) (by omega) hR
          · refine z_if_eq (t := 127) d_Mod_rank_120 (by decide) (by first | omega | exact hw _ | exact hx _ _ | assumption) (fun _ => ?_) (fun h => absurd h (by decide))
            refine z_iconst d_Mod_rank_127 ?_
            refine z_iadd d_Mod_rank_128 ?_
            refine j_istore_n d_Mod_rank_129 (by decide) ?_
            show SJ _ _ _ _ [_, _, _, _, _, _, _, _] _ _ _ _ _
            refine z_iinc d_Mod_rank_130 rfl (by decide) ?_
            show SJ _ _ _ _ [_, _, _, _, _, _, _, _] _ _ _ _ _
            refine j_goto (t := 35) d_Mod_rank_133 (by decide) ?_
            refine SJ.mask [true, true, true, true, true, false, false, true] ?_
            show SJ _ _ _ _ [_, _, none, _, _, none, none, none] _ _ _ _ _
            first
            | (exfalso; omega)
            | exact ih _ (by omega) _ _ _ rfl (by omega) (by omega) (by omega) (by omega) hR
        · refine z_if_eq (t := 105) d_Mod_rank_93 (by decide) (by first | omega | exact hw _ | exact hx _ _ | assumption) (fun _ => ?_) (fun h => absurd h (by decide))
          refine z_iconst d_Mod_rank_105 ?_
          rw [if_neg (by omega), if_neg (by omega)] at hR
          refine z_i2l d_Mod_rank_106 (by first | omega | exact hw _ | exact hx _ _ | assumption) ?_
          refine z_lmul d_Mod_rank_107 ?_
          refine z_ladd d_Mod_rank_108 ?_
          refine j_lstore_n d_Mod_rank_109 (by decide) ?_
          show SJ _ _ _ _ [_, _, _, _, _, _, _, _] _ _ _ _ _
          refine j_iload_n d_Mod_rank_110 rfl ?_
          refine j_aload_n d_Mod_rank_111 rfl ?_
          refine j_iload d_Mod_rank_112 rfl ?_
          refine v_call1 d_Mod_rank_114 c_Mod_324 rfl ⟨_, rfl, rfl⟩ (Nat.le_of_ble_eq_true rfl) (t_Mod_signAt (by omega) (by omega) ?_)
          refine s_call1 d_Mod_rank_117 c_Mod_312 (Nat.le_of_ble_eq_true rfl) (t_Mod_opens0 (by first | omega | exact hw _ | exact hx _ _ | assumption) (fun h117 => ?_) (fun h117 => ?_))
          · refine z_if_eq (t := 127) d_Mod_rank_120 (by decide) (by first | omega | exact hw _ | exact hx _ _ | assumption) (fun h => absurd h (by decide)) (fun _ => ?_)
            refine z_iconst d_Mod_rank_123 ?_
            refine j_goto (t := 128) d_Mod_rank_124 (by decide) ?_
            refine z_iadd d_Mod_rank_128 ?_
            refine j_istore_n d_Mod_rank_129 (by decide) ?_
            show SJ _ _ _ _ [_, _, _, _, _, _, _, _] _ _ _ _ _
            refine z_iinc d_Mod_rank_130 rfl (by decide) ?_
            show SJ _ _ _ _ [_, _, _, _, _, _, _, _] _ _ _ _ _
            refine j_goto (t := 35) d_Mod_rank_133 (by decide) ?_
            refine SJ.mask [true, true, true, true, true, false, false, true] ?_
            show SJ _ _ _ _ [_, _, none, _, _, none, none, none] _ _ _ _ _
            first
            | (exfalso; omega)
            | exact ih _ (by omega) _ _ _ rfl (by omega) (by omega) (by omega) (by omega) hR
          · refine z_if_eq (t := 127) d_Mod_rank_120 (by decide) (by first | omega | exact hw _ | exact hx _ _ | assumption) (fun _ => ?_) (fun h => absurd h (by decide))
            refine z_iconst d_Mod_rank_127 ?_
            refine z_iadd d_Mod_rank_128 ?_
            refine j_istore_n d_Mod_rank_129 (by decide) ?_
            show SJ _ _ _ _ [_, _, _, _, _, _, _, _] _ _ _ _ _
            refine z_iinc d_Mod_rank_130 rfl (by decide) ?_
            show SJ _ _ _ _ [_, _, _, _, _, _, _, _] _ _ _ _ _
            refine j_goto (t := 35) d_Mod_rank_133 (by decide) ?_
            refine SJ.mask [true, true, true, true, true, false, false, true] ?_
            show SJ _ _ _ _ [_, _, none, _, _, none, none, none] _ _ _ _ _
            first
            | (exfalso; omega)
            | exact ih _ (by omega) _ _ _ rfl (by omega) (by omega) (by omega) (by omega) hR
      · refine j_goto (t := 79) d_Mod_rank_75 (by decide) ?_
        have hE : rkE x2 p op = 0 := by (unfold rkE; first | rw [if_neg (by omega)] | rw [if_pos (by omega), Wd_out (by omega) (by omega) (by omega)])
        rw [← hE]
        refine j_lstore d_Mod_rank_79 (by decide) ?_
        show SJ _ _ _ _ [_, _, _, _, _, _, _, _] _ _ _ _ _
        refine j_lload_n d_Mod_rank_81 rfl ?_
        refine j_lload d_Mod_rank_82 rfl ?_
        refine j_aload_n d_Mod_rank_84 rfl ?_
        refine j_iload d_Mod_rank_85 rfl ?_
        refine v_call1 d_Mod_rank_87 c_Mod_324 rfl ⟨_, rfl, rfl⟩ (Nat.le_of_ble_eq_true rfl) (t_Mod_signAt (by omega) (by omega) ?_)
        refine s_call1 d_Mod_rank_90 c_Mod_312 (Nat.le_of_ble_eq_true rfl) (t_Mod_opens0 (by first | omega | exact hw _ | exact hx _ _ | assumption) (fun h90 => ?_) (fun h90 => ?_))
        · refine z_if_eq (t := 105) d_Mod_rank_93 (by decide) (by first | omega | exact hw _ | exact hx _ _ | assumption) (fun h => absurd h (by decide)) (fun _ => ?_)
          refine j_aload_n d_Mod_rank_96 rfl ?_
          refine j_iload d_Mod_rank_97 rfl ?_
          refine v_call1 d_Mod_rank_99 c_Mod_324 rfl ⟨_, rfl, rfl⟩ (Nat.le_of_ble_eq_true rfl) (t_Mod_signAt (by omega) (by omega) ?_)
          refine j_goto (t := 106) d_Mod_rank_102 (by decide) ?_
          rw [if_pos (by omega), if_pos (by omega)] at hR
          refine z_i2l d_Mod_rank_106 (by first | omega | exact hw _ | exact hx _ _ | assumption) ?_
          refine z_lmul d_Mod_rank_107 ?_
          refine z_ladd d_Mod_rank_108 ?_
          refine j_lstore_n d_Mod_rank_109 (by decide) ?_
          show SJ _ _ _ _ [_, _, _, _, _, _, _, _] _ _ _ _ _
          refine j_iload_n d_Mod_rank_110 rfl ?_
          refine j_aload_n d_Mod_rank_111 rfl ?_
          refine j_iload d_Mod_rank_112 rfl ?_
          refine v_call1 d_Mod_rank_114 c_Mod_324 rfl ⟨_, rfl, rfl⟩ (Nat.le_of_ble_eq_true rfl) (t_Mod_signAt (by omega) (by omega) ?_)
          refine s_call1 d_Mod_rank_117 c_Mod_312 (Nat.le_of_ble_eq_true rfl) (t_Mod_opens0 (by first | omega | exact hw _ | exact hx _ _ | assumption) (fun h117 => ?_) (fun h117 => ?_))
          · refine z_if_eq (t := 127) d_Mod_rank_120 (by decide) (by first | omega | exact hw _ | exact hx _ _ | assumption) (fun h => absurd h (by decide)) (fun _ => ?_)
            refine z_iconst d_Mod_rank_123 ?_
            refine j_goto (t := 128) d_Mod_rank_124 (by decide) ?_
            refine z_iadd d_Mod_rank_128 ?_
            refine j_istore_n d_Mod_rank_129 (by decide) ?_
            show SJ _ _ _ _ [_, _, _, _, _, _, _, _] _ _ _ _ _
            refine z_iinc d_Mod_rank_130 rfl (by decide) ?_
            show SJ _ _ _ _ [_, _, _, _, _, _, _, _] _ _ _ _ _
            refine j_goto (t := 35) d_Mod_rank_133 (by decide) ?_
            refine SJ.mask [true, true, true, true, true, false, false, true] ?_
            show SJ _ _ _ _ [_, _, none, _, _, none, none, none] _ _ _ _ _
            first
            | (exfalso; omega)
            | exact ih _ (by omega) _ _ _ rfl (by omega) (by omega) (by omega) (by omega) hR
          · refine z_if_eq (t := 127) d_Mod_rank_120 (by decide) (by first | omega | exact hw _ | exact hx _ _ | assumption) (fun _ => ?_) (fun h => absurd h (by decide))
            refine z_iconst d_Mod_rank_127 ?_
            refine z_iadd d_Mod_rank_128 ?_
            refine j_istore_n d_Mod_rank_129 (by decide) ?_
            show SJ _ _ _ _ [_, _, _, _, _, _, _, _] _ _ _ _ _
            refine z_iinc d_Mod_rank_130 rfl (by decide) ?_
            show SJ _ _ _ _ [_, _, _, _, _, _, _, _] _ _ _ _ _
            refine j_goto (t := 35) d_Mod_rank_133 (by decide) ?_
            refine SJ.mask [true, true, true, true, true, false, false, true] ?_
            show SJ _ _ _ _ [_, _, none, _, _, none, none, none] _ _ _ _ _
            first
            | (exfalso; omega)
            | exact ih _ (by omega) _ _ _ rfl (by omega) (by omega) (by omega) (by omega) hR
        · refine z_if_eq (t := 105) d_Mod_rank_93 (by decide) (by first | omega | exact hw _ | exact hx _ _ | assumption) (fun _ => ?_) (fun h => absurd h (by decide))
          refine z_iconst d_Mod_rank_105 ?_
          rw [if_neg (by omega), if_neg (by omega)] at hR
          refine z_i2l d_Mod_rank_106 (by first | omega | exact hw _ | exact hx _ _ | assumption) ?_
          refine z_lmul d_Mod_rank_107 ?_
          refine z_ladd d_Mod_rank_108 ?_
          refine j_lstore_n d_Mod_rank_109 (by decide) ?_
          show SJ _ _ _ _ [_, _, _, _, _, _, _, _] _ _ _ _ _
          refine j_iload_n d_Mod_rank_110 rfl ?_
          refine j_aload_n d_Mod_rank_111 rfl ?_
          refine j_iload d_Mod_rank_112 rfl ?_
          refine v_call1 d_Mod_rank_114 c_Mod_324 rfl ⟨_, rfl, rfl⟩ (Nat.le_of_ble_eq_true rfl) (t_Mod_signAt (by omega) (by omega) ?_)
          refine s_call1 d_Mod_rank_117 c_Mod_312 (Nat.le_of_ble_eq_true rfl) (t_Mod_opens0 (by first | omega | exact hw _ | exact hx _ _ | assumption) (fun h117 => ?_) (fun h117 => ?_))
          · refine z_if_eq (t := 127) d_Mod_rank_120 (by decide) (by first | omega | exact hw _ | exact hx _ _ | assumption) (fun h => absurd h (by decide)) (fun _ => ?_)
            refine z_iconst d_Mod_rank_123 ?_
            refine j_goto (t := 128) d_Mod_rank_124 (by decide) ?_
            refine z_iadd d_Mod_rank_128 ?_
            refine j_istore_n d_Mod_rank_129 (by decide) ?_
            show SJ _ _ _ _ [_, _, _, _, _, _, _, _] _ _ _ _ _
            refine z_iinc d_Mod_rank_130 rfl (by decide) ?_
            show SJ _ _ _ _ [_, _, _, _, _, _, _, _] _ _ _ _ _
            refine j_goto (t := 35) d_Mod_rank_133 (by decide) ?_
            refine SJ.mask [true, true, true, true, true, false, false, true] ?_
            show SJ _ _ _ _ [_, _, none, _, _, none, none, none] _ _ _ _ _
            first
            | (exfalso; omega)
            | exact ih _ (by omega) _ _ _ rfl (by omega) (by omega) (by omega) (by omega) hR
          · refine z_if_eq (t := 127) d_Mod_rank_120 (by decide) (by first | omega | exact hw _ | exact hx _ _ | assumption) (fun _ => ?_) (fun h => absurd h (by decide))
            refine z_iconst d_Mod_rank_127 ?_
            refine z_iadd d_Mod_rank_128 ?_
            refine j_istore_n d_Mod_rank_129 (by decide) ?_
            show SJ _ _ _ _ [_, _, _, _, _, _, _, _] _ _ _ _ _
            refine z_iinc d_Mod_rank_130 rfl (by decide) ?_
            show SJ _ _ _ _ [_, _, _, _, _, _, _, _] _ _ _ _ _
            refine j_goto (t := 35) d_Mod_rank_133 (by decide) ?_
            refine SJ.mask [true, true, true, true, true, false, false, true] ?_
            show SJ _ _ _ _ [_, _, none, _, _, none, none, none] _ _ _ _ _
            first
            | (exfalso; omega)
            | exact ih _ (by omega) _ _ _ rfl (by omega) (by omega) (by omega) (by omega) hR
theorem t_Mod_rank {g : Bool} {d : Nat} {Q : List xM → Option Value → Prop} {i0 i6 i8 i9 i10 i13 i14 i18 i19 i20 i21 i22 i23 i24 i25 i27 i28 i33 i42 i43 i44 i45 i46 i47 i48 i51 i52 : Int} {x1 x2 x3 x4 x5 x7 x11 x12 x15 x16 x17 x26 x29 x30 x31 x32 x34 x35 x36 x37 x38 x39 x40 x41 x49 x50 : Int → Int} (hn0 : 0 ≤ x2 0) (hn1 : x2 0 ≤ 20) (hs : ∀ j, 0 ≤ j → j < x2 0 → 0 ≤ x2 (1 + j) ∧ x2 (1 + j) ≤ 11) (d0 : 1 ≤ x2 22) (d1 : x2 22 ≤ 9) (hQ : ∀ y29 y30 z38, Q (MM i0 i6 i8 i9 i10 i13 i14 i18 i19 i20 i21 i22 i23 i24 i25 i27 i28 i33 i42 i43 i44 i45 i46 i47 i48 i51 i52 x1 x2 x3 x4 x5 x7 x11 x12 x15 x16 x17 x26 y29 y30 x31 x32 x34 x35 x36 x37 z38 x39 x40 x41 x49 x50) (some (.long (ll (rkR x2))))) : CT g m_Mod_rank (d + 5) [.ref 0] (MM i0 i6 i8 i9 i10 i13 i14 i18 i19 i20 i21 i22 i23 i24 i25 i27 i28 i33 i42 i43 i44 i45 i46 i47 i48 i51 i52 x1 x2 x3 x4 x5 x7 x11 x12 x15 x16 x17 x26 x29 x30 x31 x32 x34 x35 x36 x37 x38 x39 x40 x41 x49 x50) 0 0 Q := by
  refine CT.of (by decide) (Nat.le_of_ble_eq_true rfl) ?_
  show SJ _ _ _ _ [some (.ref 0), none, none, none, none, none, none, none] [] _ _ _ _
  have hn2 : x2 0 - 1 ≤ 2 * (x2 0).tdiv 2 ∧ (x2 0).tdiv 2 ≤ 12 ∧ 0 ≤ (x2 0).tdiv 2 := by
    rw [Int.tdiv_eq_ediv_of_nonneg (by omega)]
    omega
  refine j_aload_n d_Mod_rank_0 rfl ?_
  refine v_call0 d_Mod_rank_1 c_Mod_425 rfl ⟨_, rfl, rfl⟩ (Nat.le_of_ble_eq_true rfl) (t_Mod_hasRank hn0 hn1 hs d0 d1 (fun h1 y29 y30 => ?_) (fun h1 y29 y30 => ?_))
  · refine z_if_ne (t := 11) d_Mod_rank_4 (by decide) (by first | omega | exact hw _ | exact hx _ _ | assumption) (fun _ => ?_) (fun h => absurd h (by decide))
    refine j_aload_n d_Mod_rank_11 rfl ?_
    refine j_aload_n d_Mod_rank_12 rfl ?_
    refine v_call0 d_Mod_rank_13 c_Mod_125 rfl ⟨_, rfl, rfl⟩ (Nat.le_of_ble_eq_true rfl) (t_Mod_length  ?_)
    refine z_iconst d_Mod_rank_16 ?_
    refine z_idiv d_Mod_rank_17 (by first | omega | exact hw _ | exact hx _ _ | assumption) (by first | omega | exact hw _ | exact hx _ _ | assumption) (by decide) ?_
    refine j_aload_n d_Mod_rank_18 rfl ?_
    refine mg_kept f_Mod_32 d_Mod_rank_19 ?_
    refine z_bipush d_Mod_rank_22 (by decide) ?_
    refine ml_kept d_Mod_rank_24 (by omega) (by omega) ?_
    refine v_call2 d_Mod_rank_25 c_Mod_422 rfl ⟨_, rfl, rfl⟩ (Nat.le_of_ble_eq_true rfl) (t_Mod_laysRows (by omega) (by omega) (by omega) (by omega) (fun z hz => ?_))
    refine z_lconst (v := 0) d_Mod_rank_28 (by decide) ?_
    refine j_lstore_n d_Mod_rank_29 (by decide) ?_
    show SJ _ _ _ _ [_, _, _, _, _, _, _, _] _ _ _ _ _
    refine z_iconst d_Mod_rank_30 ?_
    refine j_istore_n d_Mod_rank_31 (by decide) ?_
    show SJ _ _ _ _ [_, _, _, _, _, _, _, _] _ _ _ _ _
    refine z_iconst d_Mod_rank_32 ?_
    refine j_istore d_Mod_rank_33 (by decide) ?_
    show SJ _ _ _ _ [_, _, _, _, _, _, _, _] _ _ _ _ _
    refine lp_rank (d := d + 3) hn0 hn1 hs d0 d1 hz (hQ _ _ _) _ 0 0 0 rfl (by omega) (by omega) (by omega) (by omega) ?_
    unfold rkR
    rw [if_pos h1]
  · refine z_if_ne (t := 11) d_Mod_rank_4 (by decide) (by first | omega | exact hw _ | exact hx _ _ | assumption) (fun h => absurd h (by decide)) (fun _ => ?_)
    refine z_ldc2 (w := -1) d_Mod_rank_7 k_Mod_420 (by decide) ?_
    exact z_lret rfl d_Mod_rank_10 (by unfold rkR; rw [if_neg h1]) (hQ _ _ _)
theorem t_Mod_readsPage {g : Bool} {d : Nat} {Q : List xM → Option Value → Prop} {i0 i6 i8 i9 i10 i13 i14 i18 i19 i20 i21 i22 i23 i24 i25 i27 i28 i33 i42 i43 i44 i45 i46 i47 i48 i51 i52 : Int} {x1 x2 x3 x4 x5 x7 x11 x12 x15 x16 x17 x26 x29 x30 x31 x32 x34 x35 x36 x37 x38 x39 x40 x41 x49 x50 : Int → Int} (hk : KOK x2) (l0 : 0 ≤ i52) (l1 : i52 ≤ 1000003) (hQ : ∀ j22 j23 j24 j25 y26 y29 y30, Q (MM i0 i6 i8 i9 i10 i13 i14 i18 i19 i20 i21 j22 j23 j24 j25 i27 i28 i33 i42 i43 i44 i45 i46 i47 i48 i51 (rdA x2 i52).2 x1 (rdK x2 i52) x3 x4 x5 x7 x11 x12 x15 x16 x17 y26 y29 y30 x31 x32 x34 x35 x36 x37 x38 x39 x40 x41 x49 x50) none) : CT g m_Mod_readsPage (d + 89) [.ref 0] (MM i0 i6 i8 i9 i10 i13 i14 i18 i19 i20 i21 i22 i23 i24 i25 i27 i28 i33 i42 i43 i44 i45 i46 i47 i48 i51 i52 x1 x2 x3 x4 x5 x7 x11 x12 x15 x16 x17 x26 x29 x30 x31 x32 x34 x35 x36 x37 x38 x39 x40 x41 x49 x50) 0 0 Q := by
  refine CT.of (by decide) (Nat.le_of_ble_eq_true rfl) ?_
  show SJ _ _ _ _ [some (.ref 0), none, none, none] [] _ _ _ _
  obtain ⟨⟨⟨hn0, hn1⟩, hs, hpg, hdp, hmo, hco, hfo⟩, hC, hz, hLw⟩ := id hk
  have f0 := hfo.1
  have f1 : x2 25 ≤ 5 := by omega
  clear hLw
  have d1 := dw_R l0
  have d2 := dw_R d1.1
  have d3 := dw_R d2.1
  have t3 := tm_R (k := 3) d1.1 (by omega)
  have t6 := tm_R (k := 6) d2.1 (by omega)
  have hE := rdA_def (K := x2) (l := i52)
  refine j_aload_n d_Mod_readsPage_0 rfl ?_
  refine z_iconst d_Mod_readsPage_1 ?_
  refine v_call1 d_Mod_readsPage_2 c_Mod_513 rfl ⟨_, rfl, rfl⟩ (Nat.le_of_ble_eq_true rfl) (t_Mod_draws (by omega) (by omega) (by omega) (by omega) ?_)
  simp only [show ∀ w_, (1103 * w_ + 12345 : Int).tmod 1000003 = dw w_ from fun _ => rfl]
  refine j_istore_n d_Mod_readsPage_5 (by decide) ?_
  show SJ _ _ _ _ [_, _, _, _] _ _ _ _ _
  refine j_iload_n d_Mod_readsPage_6 rfl ?_
  refine z_if_ne (t := 52) d_Mod_readsPage_7 (by decide) (by first | omega | exact hw _ | exact hx _ _ | assumption) (fun h7 => ?_) (fun h7 => ?_)
  · refine j_iload_n d_Mod_readsPage_52 rfl ?_
    refine z_iconst d_Mod_readsPage_53 ?_
    refine z_icmp_ne (t := 76) d_Mod_readsPage_54 (by decide) (by first | omega | exact hw _ | exact hx _ _ | assumption) (by first | omega | exact hw _ | exact hx _ _ | assumption) (fun h54 => ?_) (fun h54 => ?_)
    · refine j_aload_n d_Mod_readsPage_76 rfl ?_
      refine mg_kept f_Mod_32 d_Mod_readsPage_77 ?_
      refine z_bipush d_Mod_readsPage_80 (by decide) ?_
      refine j_dup2 d_Mod_readsPage_82 rfl rfl ?_
      refine ml_kept d_Mod_readsPage_83 (by omega) (by omega) ?_
      refine z_iconst d_Mod_readsPage_84 ?_
      refine z_iadd d_Mod_readsPage_85 ?_
      refine ms_kept d_Mod_readsPage_86 (by omega) (by omega) ?_
      first
      | (exfalso; omega)
      | (rw [if_pos (by omega), if_neg (fun q => absurd q.1 (by omega))] at hE
         unfold rdK at hQ
         rw [hE] at hQ
         exact j_return rfl d_Mod_readsPage_87 (hQ _ _ _ _ _ _ _))
      | (rw [if_pos (by omega), if_pos ⟨by omega, h40⟩] at hE
         unfold rdK at hQ
         rw [hE] at hQ
         exact j_return rfl d_Mod_readsPage_87 (hQ _ _ _ _ _ _ _))
      | (rw [if_pos (by omega), if_neg (fun q => q.2 h40)] at hE
         unfold rdK at hQ
         rw [hE] at hQ
         exact j_return rfl d_Mod_readsPage_87 (hQ _ _ _ _ _ _ _))
      | (rw [if_neg (by omega), if_pos ⟨by omega, by omega⟩] at hE
         unfold rdK at hQ
         rw [hE] at hQ
         exact j_return rfl d_Mod_readsPage_87 (hQ _ _ _ _ _ _ _))
      | (rw [if_neg (by omega), if_neg (fun q => absurd q.1 (by omega))] at hE
         unfold rdK at hQ
         rw [hE] at hQ
         exact j_return rfl d_Mod_readsPage_87 (hQ _ _ _ _ _ _ _))
      | (rw [if_neg (by omega), if_neg (fun q => absurd q.2 (by omega))] at hE
         unfold rdK at hQ
         rw [hE] at hQ
         exact j_return rfl d_Mod_readsPage_87 (hQ _ _ _ _ _ _ _))
    · refine j_aload_n d_Mod_readsPage_57 rfl ?_
      refine v_call0 d_Mod_readsPage_58 c_Mod_125 rfl ⟨_, rfl, rfl⟩ (Nat.le_of_ble_eq_true rfl) (t_Mod_length  ?_)
      refine z_if_le (t := 76) d_Mod_readsPage_61 (by decide) (by first | omega | exact hw _ | exact hx _ _ | assumption) (fun h61 => ?_) (fun h61 => ?_)
      · refine j_aload_n d_Mod_readsPage_76 rfl ?_
        refine mg_kept f_Mod_32 d_Mod_readsPage_77 ?_
        refine z_bipush d_Mod_readsPage_80 (by decide) ?_
        refine j_dup2 d_Mod_readsPage_82 rfl rfl ?_
        refine ml_kept d_Mod_readsPage_83 (by omega) (by omega) ?_
        refine z_iconst d_Mod_readsPage_84 ?_
        refine z_iadd d_Mod_readsPage_85 ?_
        refine ms_kept d_Mod_readsPage_86 (by omega) (by omega) ?_
        first
        | (exfalso; omega)
        | (rw [if_pos (by omega), if_neg (fun q => absurd q.1 (by omega))] at hE
           unfold rdK at hQ
           rw [hE] at hQ
           exact j_return rfl d_Mod_readsPage_87 (hQ _ _ _ _ _ _ _))
        | (rw [if_pos (by omega), if_pos ⟨by omega, h40⟩] at hE
           unfold rdK at hQ
           rw [hE] at hQ
           exact j_return rfl d_Mod_readsPage_87 (hQ _ _ _ _ _ _ _))
        | (rw [if_pos (by omega), if_neg (fun q => q.2 h40)] at hE
           unfold rdK at hQ
           rw [hE] at hQ
           exact j_return rfl d_Mod_readsPage_87 (hQ _ _ _ _ _ _ _))
        | (rw [if_neg (by omega), if_pos ⟨by omega, by omega⟩] at hE
           unfold rdK at hQ
           rw [hE] at hQ
           exact j_return rfl d_Mod_readsPage_87 (hQ _ _ _ _ _ _ _))
        | (rw [if_neg (by omega), if_neg (fun q => absurd q.1 (by omega))] at hE
           unfold rdK at hQ
           rw [hE] at hQ
           exact j_return rfl d_Mod_readsPage_87 (hQ _ _ _ _ _ _ _))
        | (rw [if_neg (by omega), if_neg (fun q => absurd q.2 (by omega))] at hE
           unfold rdK at hQ
           rw [hE] at hQ
           exact j_return rfl d_Mod_readsPage_87 (hQ _ _ _ _ _ _ _))
      · have tn := tm_R (k := x2 0) d2.1 (by omega)
        refine j_aload_n d_Mod_readsPage_64 rfl ?_
        refine j_aload_n d_Mod_readsPage_65 rfl ?_
        refine j_aload_n d_Mod_readsPage_66 rfl ?_
        refine v_call0 d_Mod_readsPage_67 c_Mod_125 rfl ⟨_, rfl, rfl⟩ (Nat.le_of_ble_eq_true rfl) (t_Mod_length  ?_)
        refine v_call1 d_Mod_readsPage_70 c_Mod_513 rfl ⟨_, rfl, rfl⟩ (Nat.le_of_ble_eq_true rfl) (t_Mod_draws (by omega) (by omega) (by omega) (by omega) ?_)
        simp only [show ∀ w_, (1103 * w_ + 12345 : Int).tmod 1000003 = dw w_ from fun _ => rfl]
        refine v_call1 d_Mod_readsPage_73 c_Mod_363 rfl ⟨_, rfl, rfl⟩ (Nat.le_of_ble_eq_true rfl) (t_Mod_cuts (by omega) (by omega) (by omega) ?_)
        refine j_aload_n d_Mod_readsPage_76 rfl ?_
        refine mg_kept f_Mod_32 d_Mod_readsPage_77 ?_
        refine z_bipush d_Mod_readsPage_80 (by decide) ?_
        refine j_dup2 d_Mod_readsPage_82 rfl rfl ?_
        refine ml_kept d_Mod_readsPage_83 (by omega) (by omega) ?_
        refine z_iconst d_Mod_readsPage_84 ?_
        refine z_iadd d_Mod_readsPage_85 ?_
        refine ms_kept d_Mod_readsPage_86 (by omega) (by omega) ?_
        first
        | (exfalso; omega)
        | (rw [if_pos (by omega), if_neg (fun q => absurd q.1 (by omega))] at hE
           unfold rdK at hQ
           rw [hE] at hQ
           exact j_return rfl d_Mod_readsPage_87 (hQ _ _ _ _ _ _ _))
        | (rw [if_pos (by omega), if_pos ⟨by omega, h40⟩] at hE
           unfold rdK at hQ
           rw [hE] at hQ
           exact j_return rfl d_Mod_readsPage_87 (hQ _ _ _ _ _ _ _))
        | (rw [if_pos (by omega), if_neg (fun q => q.2 h40)] at hE
           unfold rdK at hQ
           rw [hE] at hQ
           exact j_return rfl d_Mod_readsPage_87 (hQ _ _ _ _ _ _ _))
        | (rw [if_neg (by omega), if_pos ⟨by omega, by omega⟩] at hE
           unfold rdK at hQ
           rw [hE] at hQ
           exact j_return rfl d_Mod_readsPage_87 (hQ _ _ _ _ _ _ _))
        | (rw [if_neg (by omega), if_neg (fun q => absurd q.1 (by omega))] at hE
           unfold rdK at hQ
           rw [hE] at hQ
           exact j_return rfl d_Mod_readsPage_87 (hQ _ _ _ _ _ _ _))
        | (rw [if_neg (by omega), if_neg (fun q => absurd q.2 (by omega))] at hE
           unfold rdK at hQ
           rw [hE] at hQ
           exact j_return rfl d_Mod_readsPage_87 (hQ _ _ _ _ _ _ _))
  · refine j_aload_n d_Mod_readsPage_10 rfl ?_
    refine z_bipush d_Mod_readsPage_11 (by decide) ?_
    refine v_call1 d_Mod_readsPage_13 c_Mod_513 rfl ⟨_, rfl, rfl⟩ (Nat.le_of_ble_eq_true rfl) (t_Mod_draws (by omega) (by omega) (by omega) (by omega) ?_)
    simp only [show ∀ w_, (1103 * w_ + 12345 : Int).tmod 1000003 = dw w_ from fun _ => rfl]
    refine j_istore_n d_Mod_readsPage_16 (by decide) ?_
    show SJ _ _ _ _ [_, _, _, _] _ _ _ _ _
    refine j_aload_n d_Mod_readsPage_17 rfl ?_
    refine j_aload_n d_Mod_readsPage_18 rfl ?_
    refine v_call0 d_Mod_readsPage_19 c_Mod_125 rfl ⟨_, rfl, rfl⟩ (Nat.le_of_ble_eq_true rfl) (t_Mod_length  ?_)
    refine z_iconst d_Mod_readsPage_22 ?_
    refine z_iadd d_Mod_readsPage_23 ?_
    refine v_call1 d_Mod_readsPage_24 c_Mod_513 rfl ⟨_, rfl, rfl⟩ (Nat.le_of_ble_eq_true rfl) (t_Mod_draws (by omega) (by omega) (by omega) (by omega) ?_)
    simp only [show ∀ w_, (1103 * w_ + 12345 : Int).tmod 1000003 = dw w_ from fun _ => rfl]
    have tn := tm_R (k := x2 0 + 1) d3.1 (by omega)
    refine j_istore_n d_Mod_readsPage_27 (by decide) ?_
    show SJ _ _ _ _ [_, _, _, _] _ _ _ _ _
    refine j_aload_n d_Mod_readsPage_28 rfl ?_
    refine v_call0 d_Mod_readsPage_29 c_Mod_125 rfl ⟨_, rfl, rfl⟩ (Nat.le_of_ble_eq_true rfl) (t_Mod_length  ?_)
    refine z_bipush d_Mod_readsPage_32 (by decide) ?_
    refine z_icmp_ge (t := 52) d_Mod_readsPage_34 (by decide) (by first | omega | exact hw _ | exact hx _ _ | assumption) (by first | omega | exact hw _ | exact hx _ _ | assumption) (fun h34 => ?_) (fun h34 => ?_)
    · refine j_iload_n d_Mod_readsPage_52 rfl ?_
      refine z_iconst d_Mod_readsPage_53 ?_
      refine z_icmp_ne (t := 76) d_Mod_readsPage_54 (by decide) (by first | omega | exact hw _ | exact hx _ _ | assumption) (by first | omega | exact hw _ | exact hx _ _ | assumption) (fun _ => ?_) (fun hq => by exfalso; omega)
      refine j_aload_n d_Mod_readsPage_76 rfl ?_
      refine mg_kept f_Mod_32 d_Mod_readsPage_77 ?_
      refine z_bipush d_Mod_readsPage_80 (by decide) ?_
      refine j_dup2 d_Mod_readsPage_82 rfl rfl ?_
      refine ml_kept d_Mod_readsPage_83 (by omega) (by omega) ?_
      refine z_iconst d_Mod_readsPage_84 ?_
      refine z_iadd d_Mod_readsPage_85 ?_
      refine ms_kept d_Mod_readsPage_86 (by omega) (by omega) ?_
      first
      | (exfalso; omega)
      | (rw [if_pos (by omega), if_neg (fun q => absurd q.1 (by omega))] at hE
         unfold rdK at hQ
         rw [hE] at hQ
         exact j_return rfl d_Mod_readsPage_87 (hQ _ _ _ _ _ _ _))
      | (rw [if_pos (by omega), if_pos ⟨by omega, h40⟩] at hE
         unfold rdK at hQ
         rw [hE] at hQ
         exact j_return rfl d_Mod_readsPage_87 (hQ _ _ _ _ _ _ _))
      | (rw [if_pos (by omega), if_neg (fun q => q.2 h40)] at hE
         unfold rdK at hQ
         rw [hE] at hQ
         exact j_return rfl d_Mod_readsPage_87 (hQ _ _ _ _ _ _ _))
      | (rw [if_neg (by omega), if_pos ⟨by omega, by omega⟩] at hE
         unfold rdK at hQ
         rw [hE] at hQ
         exact j_return rfl d_Mod_readsPage_87 (hQ _ _ _ _ _ _ _))
      | (rw [if_neg (by omega), if_neg (fun q => absurd q.1 (by omega))] at hE
         unfold rdK at hQ
         rw [hE] at hQ
         exact j_return rfl d_Mod_readsPage_87 (hQ _ _ _ _ _ _ _))
      | (rw [if_neg (by omega), if_neg (fun q => absurd q.2 (by omega))] at hE
         unfold rdK at hQ
         rw [hE] at hQ
         exact j_return rfl d_Mod_readsPage_87 (hQ _ _ _ _ _ _ _))
    · refine j_aload_n d_Mod_readsPage_37 rfl ?_
      refine j_iload_n d_Mod_readsPage_38 rfl ?_
      refine j_iload_n d_Mod_readsPage_39 rfl ?_
      refine v_call2 d_Mod_readsPage_40 c_Mod_330 rfl ⟨_, rfl, rfl⟩ (Nat.le_of_ble_eq_true rfl) (t_Mod_isBarred hn0 hn1 hs hC f0 f1 hz (by omega) (by omega) (hk.has (head := 4) (s := ((dw (dw i52)).tmod 6)) (p := ((dw (dw (dw i52))).tmod (x2 0 + 1))) (wo := 0) (by omega) (by omega) (by omega) (by omega)) (fun h40 j22 j23 j24 j25 y26 y29 y30 => ?_) (fun h40 j22 j23 j24 j25 y26 y29 y30 => ?_))
      · refine z_if_ne (t := 52) d_Mod_readsPage_43 (by decide) (by first | omega | exact hw _ | exact hx _ _ | assumption) (fun _ => ?_) (fun h => absurd h (by decide))
        refine j_iload_n d_Mod_readsPage_52 rfl ?_
        refine z_iconst d_Mod_readsPage_53 ?_
        refine z_icmp_ne (t := 76) d_Mod_readsPage_54 (by decide) (by first | omega | exact hw _ | exact hx _ _ | assumption) (by first | omega | exact hw _ | exact hx _ _ | assumption) (fun _ => ?_) (fun hq => by exfalso; omega)
        refine j_aload_n d_Mod_readsPage_76 rfl ?_
        refine mg_kept f_Mod_32 d_Mod_readsPage_77 ?_
        refine z_bipush d_Mod_readsPage_80 (by decide) ?_
        refine j_dup2 d_Mod_readsPage_82 rfl rfl ?_
        refine ml_kept d_Mod_readsPage_83 (by omega) (by omega) ?_
        refine z_iconst d_Mod_readsPage_84 ?_
        refine z_iadd d_Mod_readsPage_85 ?_
        refine ms_kept d_Mod_readsPage_86 (by omega) (by omega) ?_
        first
        | (exfalso; omega)
        | (rw [if_pos (by omega), if_neg (fun q => absurd q.1 (by omega))] at hE
           unfold rdK at hQ
           rw [hE] at hQ
           exact j_return rfl d_Mod_readsPage_87 (hQ _ _ _ _ _ _ _))
        | (rw [if_pos (by omega), if_pos ⟨by omega, h40⟩] at hE
           unfold rdK at hQ
           rw [hE] at hQ
           exact j_return rfl d_Mod_readsPage_87 (hQ _ _ _ _ _ _ _))
        | (rw [if_pos (by omega), if_neg (fun q => q.2 h40)] at hE
           unfold rdK at hQ
           rw [hE] at hQ
           exact j_return rfl d_Mod_readsPage_87 (hQ _ _ _ _ _ _ _))
        | (rw [if_neg (by omega), if_pos ⟨by omega, by omega⟩] at hE
           unfold rdK at hQ
           rw [hE] at hQ
           exact j_return rfl d_Mod_readsPage_87 (hQ _ _ _ _ _ _ _))
        | (rw [if_neg (by omega), if_neg (fun q => absurd q.1 (by omega))] at hE
           unfold rdK at hQ
           rw [hE] at hQ
           exact j_return rfl d_Mod_readsPage_87 (hQ _ _ _ _ _ _ _))
        | (rw [if_neg (by omega), if_neg (fun q => absurd q.2 (by omega))] at hE
           unfold rdK at hQ
           rw [hE] at hQ
           exact j_return rfl d_Mod_readsPage_87 (hQ _ _ _ _ _ _ _))
      · refine z_if_ne (t := 52) d_Mod_readsPage_43 (by decide) (by first | omega | exact hw _ | exact hx _ _ | assumption) (fun h => absurd h (by decide)) (fun _ => ?_)
        refine j_aload_n d_Mod_readsPage_46 rfl ?_
        refine j_iload_n d_Mod_readsPage_47 rfl ?_
        refine j_iload_n d_Mod_readsPage_48 rfl ?_
        refine v_call2 d_Mod_readsPage_49 c_Mod_357 rfl ⟨_, rfl, rfl⟩ (Nat.le_of_ble_eq_true rfl) (t_Mod_puts (by omega) (by omega) (by omega) ?_)
        refine j_iload_n d_Mod_readsPage_52 rfl ?_
        refine z_iconst d_Mod_readsPage_53 ?_
        refine z_icmp_ne (t := 76) d_Mod_readsPage_54 (by decide) (by first | omega | exact hw _ | exact hx _ _ | assumption) (by first | omega | exact hw _ | exact hx _ _ | assumption) (fun _ => ?_) (fun hq => by exfalso; omega)
        refine j_aload_n d_Mod_readsPage_76 rfl ?_
        refine mg_kept f_Mod_32 d_Mod_readsPage_77 ?_
        refine z_bipush d_Mod_readsPage_80 (by decide) ?_
        refine j_dup2 d_Mod_readsPage_82 rfl rfl ?_
        refine ml_kept d_Mod_readsPage_83 (by omega) (by omega) ?_
        refine z_iconst d_Mod_readsPage_84 ?_
        refine z_iadd d_Mod_readsPage_85 ?_
        refine ms_kept d_Mod_readsPage_86 (by omega) (by omega) ?_
        first
        | (exfalso; omega)
        | (rw [if_pos (by omega), if_neg (fun q => absurd q.1 (by omega))] at hE
           unfold rdK at hQ
           rw [hE] at hQ
           exact j_return rfl d_Mod_readsPage_87 (hQ _ _ _ _ _ _ _))
        | (rw [if_pos (by omega), if_pos ⟨by omega, h40⟩] at hE
           unfold rdK at hQ
           rw [hE] at hQ
           exact j_return rfl d_Mod_readsPage_87 (hQ _ _ _ _ _ _ _))
        | (rw [if_pos (by omega), if_neg (fun q => q.2 h40)] at hE
           unfold rdK at hQ
           rw [hE] at hQ
           exact j_return rfl d_Mod_readsPage_87 (hQ _ _ _ _ _ _ _))
        | (rw [if_neg (by omega), if_pos ⟨by omega, by omega⟩] at hE
           unfold rdK at hQ
           rw [hE] at hQ
           exact j_return rfl d_Mod_readsPage_87 (hQ _ _ _ _ _ _ _))
        | (rw [if_neg (by omega), if_neg (fun q => absurd q.1 (by omega))] at hE
           unfold rdK at hQ
           rw [hE] at hQ
           exact j_return rfl d_Mod_readsPage_87 (hQ _ _ _ _ _ _ _))
        | (rw [if_neg (by omega), if_neg (fun q => absurd q.2 (by omega))] at hE
           unfold rdK at hQ
           rw [hE] at hQ
           exact j_return rfl d_Mod_readsPage_87 (hQ _ _ _ _ _ _ _))
