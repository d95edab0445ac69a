theorem lp_lik1 {g : Bool} {d : Nat} {Q : List xM → Option Value → Prop} {rn rl rp : Int} {op pa rs rm rd ro : Int → Int} {wy : Int → Int → Int} {n s : Int} (n0 : 0 ≤ s) (n1 : s < 60) (hA : ∀ j, 0 ≤ j → j < 62 → pa j = lk s.toNat j) (hkk : ∀ pb, (∀ j, 0 ≤ j → j < 62 → pb j = lk (s.toNat + 1) j) → SJ g m_Num_likelihood (d + 1) 95 [some (.ref 0), some (.int (ii n)), some (.int (ii s)), none] [] (W_NU rn rl rp op pa pb rs rm rd ro wy) 0 0 Q) : ∀ (nn : Nat) (h : Int) (pb : Int → Int), (s + 1 - h).toNat = nn → 0 ≤ h → h ≤ s + 1 → (∀ j, 0 ≤ j → j < 62 → pb j = lkp s.toNat h j) → SJ g m_Num_likelihood (d + 1) 34 [some (.ref 0), some (.int (ii n)), some (.int (ii s)), some (.int (ii h))] [] (W_NU rn rl rp op pa pb rs rm rd ro wy) 0 0 Q := by
  intro nn
  induction nn using Nat.strongRecOn with
  | ind nn ih =>
  intro h pb hn h0 h1 hB
  refine j_iload_n d_Num_likelihood_34 rfl ?_
  refine j_iload_n d_Num_likelihood_35 rfl ?_
  refine z_icmp_gt (t := 95) d_Num_likelihood_36 (by decide) (by first | omega | exact hw _ | exact hx _ _ | assumption) (by first | omega | exact hw _ | exact hx _ _ | assumption) (fun h36 => ?_) (fun h36 => ?_)
  · refine SJ.mask [true, true, true, false] ?_
    show SJ _ _ _ _ [_, _, _, none] _ _ _ _ _
    exact hkk pb (fun j j0 j1 => by rw [hB j j0 j1, show h = (s.toNat : Int) + 1 by omega]; exact lkp_end j0)
  · have hpa := hA h (by omega) (by omega)
    have hlk := lk_R s.toNat h
    refine j_aload_n d_Num_likelihood_39 rfl ?_
    refine gf_NU_0_3 f_Num_24 d_Num_likelihood_40 ?_
    refine j_iload_n d_Num_likelihood_43 rfl ?_
    refine z_iconst d_Num_likelihood_44 ?_
    refine z_iadd d_Num_likelihood_45 ?_
    refine j_dup2 d_Num_likelihood_46 rfl rfl ?_
    refine al_NU_4 d_Num_likelihood_47 (by omega) (by omega) ?_
    refine j_aload_n d_Num_likelihood_48 rfl ?_
    refine gf_NU_0_2 f_Num_20 d_Num_likelihood_49 ?_
    refine j_iload_n d_Num_likelihood_52 rfl ?_
    refine al_NU_3 d_Num_likelihood_53 (by omega) (by omega) ?_
    refine z_ldc2 (w := 3) d_Num_likelihood_54 k_Num_33 (by decide) ?_
    refine z_lmul d_Num_likelihood_57 ?_
    refine z_ldc2 (w := 6) d_Num_likelihood_58 k_Num_73 (by decide) ?_
    refine z_ldiv d_Num_likelihood_61 (by omega) (by omega) (by decide) ?_
    refine z_ladd d_Num_likelihood_62 ?_
    refine as_NU_4 d_Num_likelihood_63 (by omega) (by omega) ?_
    refine j_iload_n d_Num_likelihood_64 rfl ?_
    refine z_if_le (t := 89) d_Num_likelihood_65 (by decide) (by first | omega | exact hw _ | exact hx _ _ | assumption) (fun h65 => ?_) (fun h65 => ?_)
    · refine z_iinc d_Num_likelihood_89 rfl (by decide) ?_
      show SJ _ _ _ _ [_, _, _, _] _ _ _ _ _
      refine j_goto (t := 34) d_Num_likelihood_92 (by decide) ?_
      refine ih _ (by omega) (h + 1) _ rfl (by omega) (by omega) (fun j j0 j1 => ?_)
      rw [lkp_s h0 j0, ← hpa]
      by_cases e1 : j = h + 1
      · rw [if_pos e1]
        first
        | (rw [up_ne (by omega), e1, up_eq, hB (h + 1) (by omega) (by omega)])
        | (rw [e1, up_eq, hB (h + 1) (by omega) (by omega)])
      · rw [if_neg e1]
        by_cases e2 : j = h - 1
        · rw [if_pos e2]
          first
          | (exfalso; omega)
          | (rw [e2, up_eq, up_ne (by omega), hB (h - 1) (by omega) (by omega)])
        · rw [if_neg e2]
          first
          | (rw [up_ne e2, up_ne e1]; exact hB j j0 j1)
          | (rw [up_ne e1]; exact hB j j0 j1)
    · refine j_aload_n d_Num_likelihood_68 rfl ?_
      refine gf_NU_0_3 f_Num_24 d_Num_likelihood_69 ?_
      refine j_iload_n d_Num_likelihood_72 rfl ?_
      refine z_iconst d_Num_likelihood_73 ?_
      refine z_isub d_Num_likelihood_74 ?_
      refine j_dup2 d_Num_likelihood_75 rfl rfl ?_
      refine al_NU_4 d_Num_likelihood_76 (by omega) (by omega) ?_
      refine j_aload_n d_Num_likelihood_77 rfl ?_
      refine gf_NU_0_2 f_Num_20 d_Num_likelihood_78 ?_
      refine j_iload_n d_Num_likelihood_81 rfl ?_
      refine al_NU_3 d_Num_likelihood_82 (by omega) (by omega) ?_
      refine z_ldc2 (w := 6) d_Num_likelihood_83 k_Num_73 (by decide) ?_
      refine z_ldiv d_Num_likelihood_86 (by omega) (by omega) (by decide) ?_
      refine z_ladd d_Num_likelihood_87 ?_
      refine as_NU_4 d_Num_likelihood_88 (by omega) (by omega) ?_
      refine z_iinc d_Num_likelihood_89 rfl (by decide) ?_
      show SJ _ _ _ _ [_, _, _, _] _ _ _ _ _
      refine j_goto (t := 34) d_Num_likelihood_92 (by decide) ?_
      refine ih _ (by omega) (h + 1) _ rfl (by omega) (by omega) (fun j j0 j1 => ?_)
      rw [lkp_s h0 j0, ← hpa]
      by_cases e1 : j = h + 1
      · rw [if_pos e1]
        first
        | (rw [up_ne (by omega), e1, up_eq, hB (h + 1) (by omega) (by omega)])
        | (rw [e1, up_eq, hB (h + 1) (by omega) (by omega)])
      · rw [if_neg e1]
        by_cases e2 : j = h - 1
        · rw [if_pos e2]
          first
          | (exfalso; omega)
          | (rw [e2, up_eq, up_ne (by omega), hB (h - 1) (by omega) (by omega)])
        · rw [if_neg e2]
          first
          | (rw [up_ne e2, up_ne e1]; exact hB j j0 j1)
          | (rw [up_ne e1]; exact hB j j0 j1)
theorem lp_lik2 {g : Bool} {d : Nat} {Q : List xM → Option Value → Prop} {rn rl rp : Int} {op rs rm rd ro : Int → Int} {wy : Int → Int → Int} {n : Int} (n0 : 0 ≤ n) (n1 : n ≤ 60) (hQ : ∀ pa pb, Q (W_NU rn rl rp op pa pb rs rm rd ro wy) (some (.long (ll (lk n.toNat 0))))) : ∀ (nn : Nat) (s : Int) (pa : Int → Int) (pb : Int → Int), (n - s).toNat = nn → 0 ≤ s → s ≤ n → (∀ j, 0 ≤ j → j < 62 → pa j = lk s.toNat j) → SJ g m_Num_likelihood (d + 1) 19 [some (.ref 0), some (.int (ii n)), some (.int (ii s)), none] [] (W_NU rn rl rp op pa pb rs rm rd ro wy) 0 0 Q := by
  intro nn
  induction nn using Nat.strongRecOn with
  | ind nn ih =>
  intro s pa pb hn s0 s1 hA
  refine j_iload_n d_Num_likelihood_19 rfl ?_
  refine j_iload_n d_Num_likelihood_20 rfl ?_
  refine z_icmp_ge (t := 119) d_Num_likelihood_21 (by decide) (by first | omega | exact hw _ | exact hx _ _ | assumption) (by first | omega | exact hw _ | exact hx _ _ | assumption) (fun h21 => ?_) (fun h21 => ?_)
  · refine j_aload_n d_Num_likelihood_119 rfl ?_
    refine gf_NU_0_2 f_Num_20 d_Num_likelihood_120 ?_
    refine z_iconst d_Num_likelihood_123 ?_
    refine al_NU_3 d_Num_likelihood_124 (by omega) (by omega) ?_
    exact z_lret rfl d_Num_likelihood_125 (by rw [hA 0 (by omega) (by omega), show s = n by omega]) (hQ _ _)
  · refine j_aload_n d_Num_likelihood_24 rfl ?_
    refine gf_NU_0_3 f_Num_24 d_Num_likelihood_25 ?_
    refine z_lconst (v := 0) d_Num_likelihood_28 (by decide) ?_
    refine s_call2 d_Num_likelihood_29 c_Num_27 (Nat.le_of_ble_eq_true rfl) (t_NU_fillb (fun x hx => ?_))
    refine z_iconst d_Num_likelihood_32 ?_
    refine j_istore_n d_Num_likelihood_33 (by decide) ?_
    show SJ _ _ _ _ [_, _, _, _] _ _ _ _ _
    refine lp_lik1 s0 (by omega) hA (fun pb hb2 => ?_) _ 0 x rfl (by omega) (by omega) (fun j j0 j1 => by rw [hx j j0 j1, lkp_0 j0])
    refine j_aload_n d_Num_likelihood_95 rfl ?_
    refine gf_NU_0_3 f_Num_24 d_Num_likelihood_96 ?_
    refine z_iconst d_Num_likelihood_99 ?_
    refine j_aload_n d_Num_likelihood_100 rfl ?_
    refine gf_NU_0_2 f_Num_20 d_Num_likelihood_101 ?_
    refine z_iconst d_Num_likelihood_104 ?_
    refine j_aload_n d_Num_likelihood_105 rfl ?_
    refine gf_NU_0_2 f_Num_20 d_Num_likelihood_106 ?_
    refine j_alen d_Num_likelihood_109 rfl (by decide) (show Int32.ofNat 62 = ii 62 by decide) ?_
    refine z_copyL d_Num_likelihood_110 ac_Num_75 rfl rfl (by decide) (by decide) (by decide) (by decide) (by decide) (by decide) (by decide) (by decide) (Nat.le_of_ble_eq_true rfl) ?_
    show SJ _ _ _ _ _ _ (W_NU rn rl rp op (cpy pb pa 0 0 62) pb rs rm rd ro wy) _ _ _
    refine z_iinc d_Num_likelihood_113 rfl (by decide) ?_
    show SJ _ _ _ _ [_, _, _, _] _ _ _ _ _
    refine j_goto (t := 19) d_Num_likelihood_116 (by decide) ?_
    exact ih _ (by omega) (s + 1) _ _ rfl (by omega) (by omega) (fun j j0 j1 => by
      unfold cpy
      rw [if_pos (by omega), show 0 + (j - 0) = j by omega, hb2 j j0 j1, show (s + 1).toNat = s.toNat + 1 by omega])
theorem t_Num_likelihood {g : Bool} {d : Nat} {Q : List xM → Option Value → Prop} {rn rl rp : Int} {op pa pb rs rm rd ro : Int → Int} {wy : Int → Int → Int} {n : Int} (n0 : 0 ≤ n) (n1 : n ≤ 60) (hQ : ∀ pa pb, Q (W_NU rn rl rp op pa pb rs rm rd ro wy) (some (.long (ll (lk n.toNat 0))))) : CT g m_Num_likelihood (d + 1) [.ref 0, .int (ii n)] (W_NU rn rl rp op pa pb rs rm rd ro wy) 0 0 Q := by
  refine CT.of (by decide) (Nat.le_of_ble_eq_true rfl) ?_
  show SJ _ _ _ _ [some (.ref 0), some (.int (ii n)), none, none] [] _ _ _ _
  refine j_aload_n d_Num_likelihood_0 rfl ?_
  refine gf_NU_0_2 f_Num_20 d_Num_likelihood_1 ?_
  refine z_lconst (v := 0) d_Num_likelihood_4 (by decide) ?_
  refine s_call2 d_Num_likelihood_5 c_Num_27 (Nat.le_of_ble_eq_true rfl) (t_NU_filla (fun x hx => ?_))
  refine j_aload_n d_Num_likelihood_8 rfl ?_
  refine gf_NU_0_2 f_Num_20 d_Num_likelihood_9 ?_
  refine z_iconst d_Num_likelihood_12 ?_
  refine z_ldc2 (w := 1000000000000) d_Num_likelihood_13 k_Num_71 (by decide) ?_
  refine as_NU_3 d_Num_likelihood_16 (by omega) (by omega) ?_
  refine z_iconst d_Num_likelihood_17 ?_
  refine j_istore_n d_Num_likelihood_18 (by decide) ?_
  show SJ _ _ _ _ [_, _, _, _] _ _ _ _ _
  refine SJ.mask [true, true, true, true] ?_
  show SJ _ _ _ _ [_, _, _, none] _ _ _ _ _
  exact lp_lik2 n0 n1 hQ _ 0 _ pb rfl (by omega) (by omega) (fun j j0 j1 => by
    show _ = (if j = 0 then _ else _)
    by_cases e : j = 0
    · rw [e, up_eq, if_pos rfl]
    · rw [up_ne e, if_neg e]; exact hx j j0 j1)
theorem lp_sign {g : Bool} {d : Nat} {Q : List xM → Option Value → Prop} {rn rl rp : Int} {pa pb rs rm rd ro : Int → Int} {wy : Int → Int → Int} {n deep num pl : Int} (n0 : 1 ≤ n) (n1 : n ≤ 12) (d0 : 1 ≤ deep) (d1 : deep ≤ 12) (p0_ : 0 ≤ pl) (p1_ : pl < 2 * n) (hW : (∀ a b, 0 ≤ a → a ≤ (2 * n) → 0 ≤ b → b ≤ deep → wy a b = Wd deep a b)) {R_ : Int} (hQ : ∀ op, Q (W_NU rn rl rp op pa pb rs rm rd ro wy) (some (.int (ii R_)))) : ∀ (nn : Nat) (p : Int) (rest : Int) (h : Int) (op : Int → Int) (sg : Int), (pl + 1 - p).toNat = nn → 0 ≤ p → p ≤ pl + 1 → 0 ≤ h → h ≤ deep → 0 ≤ rest → rest < Wd deep (2 * n - p) h → nsF deep n (pl + 1 - p).toNat p rest h op sg = R_ → SJ g m_Num_signOf (d + 1) 31 [some (.ref 0), some (.int (ii n)), some (.int (ii deep)), some (.long (ll num)), none, some (.int (ii pl)), some (.long (ll rest)), none, some (.int (ii h)), some (.int (ii sg)), some (.int (ii p)), none, none] [] (W_NU rn rl rp op pa pb rs rm rd ro wy) 0 0 Q := by
  intro nn
  induction nn using Nat.strongRecOn with
  | ind nn ih =>
  intro p rest h op sg hn q0 q1 h0 h1 r0 r1 hR
  refine j_iload d_Num_signOf_31 rfl ?_
  refine j_iload d_Num_signOf_33 rfl ?_
  refine z_icmp_gt (t := 157) d_Num_signOf_35 (by decide) (by first | omega | exact hw _ | exact hx _ _ | assumption) (by first | omega | exact hw _ | exact hx _ _ | assumption) (fun h35 => ?_) (fun h35 => ?_)
  · refine j_iload d_Num_signOf_157 rfl ?_
    rw [show (pl + 1 - p).toNat = 0 by omega] at hR
    exact z_iret rfl d_Num_signOf_159 hR (hQ _)
  · have hWr := Wd_R (dp := deep) (l := 2 * n - p) (o := h) (by omega)
    have hWn := Wd_R (dp := deep) (l := 2 * n - p - 1) (o := h + 1) (by omega)
    rw [show (pl + 1 - p).toNat = (pl + 1 - (p + 1)).toNat + 1 by omega] at hR
    simp only [nsF] at hR
    obtain ⟨ea, hea⟩ : ∃ ea, ea = nsE deep n p h := ⟨_, rfl⟩
    rw [← hea] at hR
    refine j_iload d_Num_signOf_38 rfl ?_
    refine j_iload_n d_Num_signOf_40 rfl ?_
    refine z_icmp_ge (t := 65) d_Num_signOf_41 (by decide) (by first | omega | exact hw _ | exact hx _ _ | assumption) (by first | omega | exact hw _ | exact hx _ _ | assumption) (fun h41 => ?_) (fun h41 => ?_)
    · have hear : ea = 0 := by rw [hea]; unfold nsE; rw [if_neg (by omega)]
      refine z_lconst (v := 0) d_Num_signOf_65 (by decide) ?_
      refine j_lstore d_Num_signOf_66 (by decide) ?_
      show SJ _ _ _ _ [_, _, _, _, _, _, _, _, _, _, _, _, _] _ _ _ _ _
      refine j_lload d_Num_signOf_68 rfl ?_
      refine z_lconst (v := 0) d_Num_signOf_70 (by decide) ?_
      refine z_lcmp_le (t := 121) d_Num_signOf_71 d_Num_signOf_72 (by decide) (by first | omega | exact hw _ | exact hx _ _ | assumption) (by first | omega | exact hw _ | exact hx _ _ | assumption) (fun h71 => ?_) (fun h71 => ?_)
      · have hcond : ¬ rest < 3 * nsE deep n p h := by rw [← hea]; omega
        obtain ⟨b1, b2, b3⟩ := ns_2 (by omega) (by omega) h0 h1 r0 r1 hcond
        rw [← hea] at b2 b3
        rw [if_neg (by omega)] at hR
        rw [hear] at b2 b3 hR
        refine j_iload d_Num_signOf_121 rfl ?_
        refine z_if_le (t := 151) d_Num_signOf_123 (by decide) (by first | omega | exact hw _ | exact hx _ _ | assumption) (fun h123 => ?_) (fun h123 => ?_)
        · refine z_iinc d_Num_signOf_151 rfl (by decide) ?_
          show SJ _ _ _ _ [_, _, _, _, _, _, _, _, _, _, _, _, _] _ _ _ _ _
          refine j_goto (t := 31) d_Num_signOf_154 (by decide) ?_
          refine SJ.mask [true, true, true, true, true, true, true, true, true, true, true, false, true] ?_
          show SJ _ _ _ _ [_, _, _, _, none, _, _, none, _, _, _, none, none] _ _ _ _ _
          first
          | exact ih _ (by omega) (p + 1) _ (h + 1) _ _ rfl (by omega) (by omega) (by omega) (by omega) b6 b7 hR
          | exact ih _ (by omega) (p + 1) _ (h - 1) _ _ rfl (by omega) (by omega) (by omega) (by omega) b2 b3 hR
          | (exfalso; omega)
        · refine j_lload d_Num_signOf_126 rfl ?_
          refine z_ldc2 (w := 3) d_Num_signOf_128 k_Num_33 (by decide) ?_
          refine j_lload d_Num_signOf_131 rfl ?_
          refine z_lmul d_Num_signOf_133 ?_
          refine z_lsub d_Num_signOf_134 ?_
          refine j_lstore d_Num_signOf_135 (by decide) ?_
          show SJ _ _ _ _ [_, _, _, _, _, _, _, _, _, _, _, _, _] _ _ _ _ _
          refine z_iinc d_Num_signOf_137 rfl (by decide) ?_
          show SJ _ _ _ _ [_, _, _, _, _, _, _, _, _, _, _, _, _] _ _ _ _ _
          rw [show h + -1 = h - 1 by omega]
          refine j_aload_n d_Num_signOf_140 rfl ?_
          refine gf_NU_0_1 f_Num_16 d_Num_signOf_141 ?_
          refine j_iload d_Num_signOf_144 rfl ?_
          refine al_NU_2 d_Num_signOf_146 (by omega) (by omega) ?_
          refine z_iconst d_Num_signOf_147 ?_
          refine z_iadd d_Num_signOf_148 ?_
          rw [show op (h - 1) + 3 = 3 + op (h - 1) by omega]
          refine j_istore d_Num_signOf_149 (by decide) ?_
          show SJ _ _ _ _ [_, _, _, _, _, _, _, _, _, _, _, _, _] _ _ _ _ _
          refine z_iinc d_Num_signOf_151 rfl (by decide) ?_
          show SJ _ _ _ _ [_, _, _, _, _, _, _, _, _, _, _, _, _] _ _ _ _ _
          refine j_goto (t := 31) d_Num_signOf_154 (by decide) ?_
          refine SJ.mask [true, true, true, true, true, true, true, true, true, true, true, false, true] ?_
          show SJ _ _ _ _ [_, _, _, _, none, _, _, none, _, _, _, none, none] _ _ _ _ _
          first
          | exact ih _ (by omega) (p + 1) _ (h + 1) _ _ rfl (by omega) (by omega) (by omega) (by omega) b6 b7 hR
          | exact ih _ (by omega) (p + 1) _ (h - 1) _ _ rfl (by omega) (by omega) (by omega) (by omega) b2 b3 hR
          | (exfalso; omega)
      · refine j_lload d_Num_signOf_75 rfl ?_
        refine z_ldc2 (w := 3) d_Num_signOf_77 k_Num_33 (by decide) ?_
        refine j_lload d_Num_signOf_80 rfl ?_
        refine z_lmul d_Num_signOf_82 ?_
        refine z_lcmp_ge (t := 121) d_Num_signOf_83 d_Num_signOf_84 (by decide) (by first | omega | exact hw _ | exact hx _ _ | assumption) (by first | omega | exact hw _ | exact hx _ _ | assumption) (fun h83 => ?_) (fun h83 => ?_)
        · have hcond : ¬ rest < 3 * nsE deep n p h := by rw [← hea]; omega
          obtain ⟨b1, b2, b3⟩ := ns_2 (by omega) (by omega) h0 h1 r0 r1 hcond
          rw [← hea] at b2 b3
          rw [if_neg (by omega)] at hR
          rw [hear] at b2 b3 hR
          refine j_iload d_Num_signOf_121 rfl ?_
          refine z_if_le (t := 151) d_Num_signOf_123 (by decide) (by first | omega | exact hw _ | exact hx _ _ | assumption) (fun h123 => ?_) (fun h123 => ?_)
          · refine z_iinc d_Num_signOf_151 rfl (by decide) ?_
            show SJ _ _ _ _ [_, _, _, _, _, _, _, _, _, _, _, _, _] _ _ _ _ _
            refine j_goto (t := 31) d_Num_signOf_154 (by decide) ?_
            refine SJ.mask [true, true, true, true, true, true, true, true, true, true, true, false, true] ?_
            show SJ _ _ _ _ [_, _, _, _, none, _, _, none, _, _, _, none, none] _ _ _ _ _
            first
            | exact ih _ (by omega) (p + 1) _ (h + 1) _ _ rfl (by omega) (by omega) (by omega) (by omega) b6 b7 hR
            | exact ih _ (by omega) (p + 1) _ (h - 1) _ _ rfl (by omega) (by omega) (by omega) (by omega) b2 b3 hR
            | (exfalso; omega)
          · refine j_lload d_Num_signOf_126 rfl ?_
            refine z_ldc2 (w := 3) d_Num_signOf_128 k_Num_33 (by decide) ?_
            refine j_lload d_Num_signOf_131 rfl ?_
            refine z_lmul d_Num_signOf_133 ?_
            refine z_lsub d_Num_signOf_134 ?_
            refine j_lstore d_Num_signOf_135 (by decide) ?_
            show SJ _ _ _ _ [_, _, _, _, _, _, _, _, _, _, _, _, _] _ _ _ _ _
            refine z_iinc d_Num_signOf_137 rfl (by decide) ?_
            show SJ _ _ _ _ [_, _, _, _, _, _, _, _, _, _, _, _, _] _ _ _ _ _
            rw [show h + -1 = h - 1 by omega]
            refine j_aload_n d_Num_signOf_140 rfl ?_
            refine gf_NU_0_1 f_Num_16 d_Num_signOf_141 ?_
            refine j_iload d_Num_signOf_144 rfl ?_
            refine al_NU_2 d_Num_signOf_146 (by omega) (by omega) ?_
            refine z_iconst d_Num_signOf_147 ?_
            refine z_iadd d_Num_signOf_148 ?_
            rw [show op (h - 1) + 3 = 3 + op (h - 1) by omega]
            refine j_istore d_Num_signOf_149 (by decide) ?_
            show SJ _ _ _ _ [_, _, _, _, _, _, _, _, _, _, _, _, _] _ _ _ _ _
            refine z_iinc d_Num_signOf_151 rfl (by decide) ?_
            show SJ _ _ _ _ [_, _, _, _, _, _, _, _, _, _, _, _, _] _ _ _ _ _
            refine j_goto (t := 31) d_Num_signOf_154 (by decide) ?_
            refine SJ.mask [true, true, true, true, true, true, true, true, true, true, true, false, true] ?_
            show SJ _ _ _ _ [_, _, _, _, none, _, _, none, _, _, _, none, none] _ _ _ _ _
            first
            | exact ih _ (by omega) (p + 1) _ (h + 1) _ _ rfl (by omega) (by omega) (by omega) (by omega) b6 b7 hR
            | exact ih _ (by omega) (p + 1) _ (h - 1) _ _ rfl (by omega) (by omega) (by omega) (by omega) b2 b3 hR
            | (exfalso; omega)
        · exfalso
          omega
    · refine j_aload_n d_Num_signOf_44 rfl ?_
      refine gf_NU_0_0 f_Num_11 d_Num_signOf_45 ?_
      refine z_iconst d_Num_signOf_48 ?_
      refine j_iload_n d_Num_signOf_49 rfl ?_
      refine z_imul d_Num_signOf_50 ?_
      refine j_iload d_Num_signOf_51 rfl ?_
      refine z_isub d_Num_signOf_53 ?_
      refine z_iconst d_Num_signOf_54 ?_
      refine z_isub d_Num_signOf_55 ?_
      refine z_aald d_Num_signOf_56 rfl (by decide) (by omega) (by omega) (by omega) ?_
      refine j_iload d_Num_signOf_57 rfl ?_
      refine z_iconst d_Num_signOf_59 ?_
      refine z_iadd d_Num_signOf_60 ?_
      refine z_lald d_Num_signOf_61 (NU_at (by omega) (by omega)) (by omega) (by omega) (by omega) ?_
      rw [hW (2 * n - p - 1) (h + 1) (by omega) (by omega) (by omega) (by omega), show Wd deep (2 * n - p - 1) (h + 1) = ea by rw [hea]; unfold nsE; rw [if_pos (by omega)]]
      have hear : ea = Wd deep (2 * n - p - 1) (h + 1) := by rw [hea]; unfold nsE; rw [if_pos (by omega)]
      refine j_goto (t := 66) d_Num_signOf_62 (by decide) ?_
      refine j_lstore d_Num_signOf_66 (by decide) ?_
      show SJ _ _ _ _ [_, _, _, _, _, _, _, _, _, _, _, _, _] _ _ _ _ _
      refine j_lload d_Num_signOf_68 rfl ?_
      refine z_lconst (v := 0) d_Num_signOf_70 (by decide) ?_
      refine z_lcmp_le (t := 121) d_Num_signOf_71 d_Num_signOf_72 (by decide) (by first | omega | exact hw _ | exact hx _ _ | assumption) (by first | omega | exact hw _ | exact hx _ _ | assumption) (fun h71 => ?_) (fun h71 => ?_)
      · have hcond : ¬ rest < 3 * nsE deep n p h := by rw [← hea]; omega
        obtain ⟨b1, b2, b3⟩ := ns_2 (by omega) (by omega) h0 h1 r0 r1 hcond
        rw [← hea] at b2 b3
        rw [if_neg (by omega)] at hR
        refine j_iload d_Num_signOf_121 rfl ?_
        refine z_if_le (t := 151) d_Num_signOf_123 (by decide) (by first | omega | exact hw _ | exact hx _ _ | assumption) (fun h123 => ?_) (fun h123 => ?_)
        · refine z_iinc d_Num_signOf_151 rfl (by decide) ?_
          show SJ _ _ _ _ [_, _, _, _, _, _, _, _, _, _, _, _, _] _ _ _ _ _
          refine j_goto (t := 31) d_Num_signOf_154 (by decide) ?_
          refine SJ.mask [true, true, true, true, true, true, true, true, true, true, true, false, true] ?_
          show SJ _ _ _ _ [_, _, _, _, none, _, _, none, _, _, _, none, none] _ _ _ _ _
          first
          | exact ih _ (by omega) (p + 1) _ (h + 1) _ _ rfl (by omega) (by omega) (by omega) (by omega) b6 b7 hR
          | exact ih _ (by omega) (p + 1) _ (h - 1) _ _ rfl (by omega) (by omega) (by omega) (by omega) b2 b3 hR
          | (exfalso; omega)
        · refine j_lload d_Num_signOf_126 rfl ?_
          refine z_ldc2 (w := 3) d_Num_signOf_128 k_Num_33 (by decide) ?_
          refine j_lload d_Num_signOf_131 rfl ?_
          refine z_lmul d_Num_signOf_133 ?_
          refine z_lsub d_Num_signOf_134 ?_
          refine j_lstore d_Num_signOf_135 (by decide) ?_
          show SJ _ _ _ _ [_, _, _, _, _, _, _, _, _, _, _, _, _] _ _ _ _ _
          refine z_iinc d_Num_signOf_137 rfl (by decide) ?_
          show SJ _ _ _ _ [_, _, _, _, _, _, _, _, _, _, _, _, _] _ _ _ _ _
          rw [show h + -1 = h - 1 by omega]
          refine j_aload_n d_Num_signOf_140 rfl ?_
          refine gf_NU_0_1 f_Num_16 d_Num_signOf_141 ?_
          refine j_iload d_Num_signOf_144 rfl ?_
          refine al_NU_2 d_Num_signOf_146 (by omega) (by omega) ?_
          refine z_iconst d_Num_signOf_147 ?_
          refine z_iadd d_Num_signOf_148 ?_
          rw [show op (h - 1) + 3 = 3 + op (h - 1) by omega]
          refine j_istore d_Num_signOf_149 (by decide) ?_
          show SJ _ _ _ _ [_, _, _, _, _, _, _, _, _, _, _, _, _] _ _ _ _ _
          refine z_iinc d_Num_signOf_151 rfl (by decide) ?_
          show SJ _ _ _ _ [_, _, _, _, _, _, _, _, _, _, _, _, _] _ _ _ _ _
          refine j_goto (t := 31) d_Num_signOf_154 (by decide) ?_
          refine SJ.mask [true, true, true, true, true, true, true, true, true, true, true, false, true] ?_
          show SJ _ _ _ _ [_, _, _, _, none, _, _, none, _, _, _, none, none] _ _ _ _ _
          first
          | exact ih _ (by omega) (p + 1) _ (h + 1) _ _ rfl (by omega) (by omega) (by omega) (by omega) b6 b7 hR
          | exact ih _ (by omega) (p + 1) _ (h - 1) _ _ rfl (by omega) (by omega) (by omega) (by omega) b2 b3 hR
          | (exfalso; omega)
      · refine j_lload d_Num_signOf_75 rfl ?_
        refine z_ldc2 (w := 3) d_Num_signOf_77 k_Num_33 (by decide) ?_
        refine j_lload d_Num_signOf_80 rfl ?_
        refine z_lmul d_Num_signOf_82 ?_
        refine z_lcmp_ge (t := 121) d_Num_signOf_83 d_Num_signOf_84 (by decide) (by first | omega | exact hw _ | exact hx _ _ | assumption) (by first | omega | exact hw _ | exact hx _ _ | assumption) (fun h83 => ?_) (fun h83 => ?_)
        · have hcond : ¬ rest < 3 * nsE deep n p h := by rw [← hea]; omega
          obtain ⟨b1, b2, b3⟩ := ns_2 (by omega) (by omega) h0 h1 r0 r1 hcond
          rw [← hea] at b2 b3
          rw [if_neg (by omega)] at hR
          refine j_iload d_Num_signOf_121 rfl ?_
          refine z_if_le (t := 151) d_Num_signOf_123 (by decide) (by first | omega | exact hw _ | exact hx _ _ | assumption) (fun h123 => ?_) (fun h123 => ?_)
          · refine z_iinc d_Num_signOf_151 rfl (by decide) ?_
            show SJ _ _ _ _ [_, _, _, _, _, _, _, _, _, _, _, _, _] _ _ _ _ _
            refine j_goto (t := 31) d_Num_signOf_154 (by decide) ?_
            refine SJ.mask [true, true, true, true, true, true, true, true, true, true, true, false, true] ?_
            show SJ _ _ _ _ [_, _, _, _, none, _, _, none, _, _, _, none, none] _ _ _ _ _
            first
            | exact ih _ (by omega) (p + 1) _ (h + 1) _ _ rfl (by omega) (by omega) (by omega) (by omega) b6 b7 hR
            | exact ih _ (by omega) (p + 1) _ (h - 1) _ _ rfl (by omega) (by omega) (by omega) (by omega) b2 b3 hR
            | (exfalso; omega)
          · refine j_lload d_Num_signOf_126 rfl ?_
            refine z_ldc2 (w := 3) d_Num_signOf_128 k_Num_33 (by decide) ?_
            refine j_lload d_Num_signOf_131 rfl ?_
            refine z_lmul d_Num_signOf_133 ?_
            refine z_lsub d_Num_signOf_134 ?_
            refine j_lstore d_Num_signOf_135 (by decide) ?_
            show SJ _ _ _ _ [_, _, _, _, _, _, _, _, _, _, _, _, _] _ _ _ _ _
            refine z_iinc d_Num_signOf_137 rfl (by decide) ?_
            show SJ _ _ _ _ [_, _, _, _, _, _, _, _, _, _, _, _, _] _ _ _ _ _
            rw [show h + -1 = h - 1 by omega]
            refine j_aload_n d_Num_signOf_140 rfl ?_
            refine gf_NU_0_1 f_Num_16 d_Num_signOf_141 ?_
            refine j_iload d_Num_signOf_144 rfl ?_
            refine al_NU_2 d_Num_signOf_146 (by omega) (by omega) ?_
            refine z_iconst d_Num_signOf_147 ?_
            refine z_iadd d_Num_signOf_148 ?_
            rw [show op (h - 1) + 3 = 3 + op (h - 1) by omega]
            refine j_istore d_Num_signOf_149 (by decide) ?_
            show SJ _ _ _ _ [_, _, _, _, _, _, _, _, _, _, _, _, _] _ _ _ _ _
            refine z_iinc d_Num_signOf_151 rfl (by decide) ?_
            show SJ _ _ _ _ [_, _, _, _, _, _, _, _, _, _, _, _, _] _ _ _ _ _
            refine j_goto (t := 31) d_Num_signOf_154 (by decide) ?_
            refine SJ.mask [true, true, true, true, true, true, true, true, true, true, true, false, true] ?_
            show SJ _ _ _ _ [_, _, _, _, none, _, _, none, _, _, _, none, none] _ _ _ _ _
            first
            | exact ih _ (by omega) (p + 1) _ (h + 1) _ _ rfl (by omega) (by omega) (by omega) (by omega) b6 b7 hR
            | exact ih _ (by omega) (p + 1) _ (h - 1) _ _ rfl (by omega) (by omega) (by omega) (by omega) b2 b3 hR
            | (exfalso; omega)
        · have hcond : rest < 3 * nsE deep n p h := by rw [← hea]; omega
          obtain ⟨b1, b2, b3, b4, b5, b6, b7⟩ := ns_1 (by omega) (by omega) h0 h1 r0 r1 hcond
          rw [← hea] at b2 b3 b4 b5 b6 b7
          rw [if_pos (by omega)] at hR
          refine j_lload d_Num_signOf_87 rfl ?_
          refine j_lload d_Num_signOf_89 rfl ?_
          refine z_ldiv d_Num_signOf_91 (by omega) (by omega) (by omega) ?_
          refine z_l2i d_Num_signOf_92 (by first | omega | exact hw _ | exact hx _ _ | assumption) ?_
          refine j_istore d_Num_signOf_93 (by decide) ?_
          show SJ _ _ _ _ [_, _, _, _, _, _, _, _, _, _, _, _, _] _ _ _ _ _
          refine j_lload d_Num_signOf_95 rfl ?_
          refine j_iload d_Num_signOf_97 rfl ?_
          refine z_i2l d_Num_signOf_99 (by first | omega | exact hw _ | exact hx _ _ | assumption) ?_
          refine j_lload d_Num_signOf_100 rfl ?_
          refine z_lmul d_Num_signOf_102 ?_
          refine z_lsub d_Num_signOf_103 ?_
          rw [show rest - rest.tdiv ea * ea = rest.tmod ea by have := Int.mul_tdiv_add_tmod rest ea; rw [Int.mul_comm] at this; omega]
          refine j_lstore d_Num_signOf_104 (by decide) ?_
          show SJ _ _ _ _ [_, _, _, _, _, _, _, _, _, _, _, _, _] _ _ _ _ _
          refine j_aload_n d_Num_signOf_106 rfl ?_
          refine gf_NU_0_1 f_Num_16 d_Num_signOf_107 ?_
          refine j_iload d_Num_signOf_110 rfl ?_
          refine j_iload d_Num_signOf_112 rfl ?_
          refine as_NU_2 d_Num_signOf_114 (by omega) (by omega) ?_
          refine z_iinc d_Num_signOf_115 rfl (by decide) ?_
          show SJ _ _ _ _ [_, _, _, _, _, _, _, _, _, _, _, _, _] _ _ _ _ _
          refine j_goto (t := 151) d_Num_signOf_118 (by decide) ?_
          refine z_iinc d_Num_signOf_151 rfl (by decide) ?_
          show SJ _ _ _ _ [_, _, _, _, _, _, _, _, _, _, _, _, _] _ _ _ _ _
          refine j_goto (t := 31) d_Num_signOf_154 (by decide) ?_
          refine SJ.mask [true, true, true, true, true, true, true, true, true, true, true, false, true] ?_
          show SJ _ _ _ _ [_, _, _, _, none, _, _, none, _, _, _, none, none] _ _ _ _ _
          first
          | exact ih _ (by omega) (p + 1) _ (h + 1) _ _ rfl (by omega) (by omega) (by omega) (by omega) b6 b7 hR
          | exact ih _ (by omega) (p + 1) _ (h - 1) _ _ rfl (by omega) (by omega) (by omega) (by omega) b2 b3 hR
          | (exfalso; omega)
theorem t_Num_signOf {g : Bool} {d : Nat} {Q : List xM → Option Value → Prop} {rn rl rp : Int} {op pa pb rs rm rd ro : Int → Int} {wy : Int → Int → Int} {n deep num pl : Int} (n0 : 1 ≤ n) (n1 : n ≤ 12) (d0 : 1 ≤ deep) (d1 : deep ≤ 12) (p0_ : 0 ≤ pl) (p1_ : pl < 2 * n) (rn_ : R64 num) (hno : num < 0 ∨ Wd deep (2 * n) 0 ≤ num → ∀ wy, Q (W_NU rn rl rp op pa pb rs rm rd ro wy) (some (.int (ii (-1))))) (hQ : 0 ≤ num → num < Wd deep (2 * n) 0 → ∀ op wy, Q (W_NU rn rl rp op pa pb rs rm rd ro wy) (some (.int (ii (nsF deep n (pl + 1 - 0).toNat 0 num 0 z0 (-1)))))) : CT g m_Num_signOf (d + 3) [.ref 0, .int (ii n), .int (ii deep), .long (ll num), .int (ii pl)] (W_NU rn rl rp op pa pb rs rm rd ro wy) 0 0 Q := by
  refine CT.of (by decide) (Nat.le_of_ble_eq_true rfl) ?_
  show SJ _ _ _ _ [some (.ref 0), some (.int (ii n)), some (.int (ii deep)), some (.long (ll num)), none, some (.int (ii pl)), none, none, none, none, none, none, none] [] _ _ _ _
  have hWr := Wd_R (dp := deep) (l := 2 * n) (o := 0) (by omega)
  refine j_lload_n d_Num_signOf_0 rfl ?_
  refine z_lconst (v := 0) d_Num_signOf_1 (by decide) ?_
  refine z_lcmp_lt (t := 17) d_Num_signOf_2 d_Num_signOf_3 (by decide) (by first | omega | exact hw _ | exact hx _ _ | assumption) (by first | omega | exact hw _ | exact hx _ _ | assumption) (fun h2 => ?_) (fun h2 => ?_)
  · refine z_iconst d_Num_signOf_17 ?_
    exact z_iret rfl d_Num_signOf_18 rfl (hno (by omega) _)
  · refine j_lload_n d_Num_signOf_6 rfl ?_
    refine j_aload_n d_Num_signOf_7 rfl ?_
    refine j_iload_n d_Num_signOf_8 rfl ?_
    refine j_iload_n d_Num_signOf_9 rfl ?_
    refine v_call2 d_Num_signOf_10 c_Num_39 rfl ⟨_, rfl, rfl⟩ (Nat.le_of_ble_eq_true rfl) (t_Num_howMany (by omega) n1 (by omega) d1 (fun wz hw2 => ?_))
    refine z_lcmp_lt (t := 19) d_Num_signOf_13 d_Num_signOf_14 (by decide) (by first | omega | exact hw _ | exact hx _ _ | assumption) (by first | omega | exact hw _ | exact hx _ _ | assumption) (fun h13 => ?_) (fun h13 => ?_)
    · refine j_lload_n d_Num_signOf_19 rfl ?_
      refine j_lstore d_Num_signOf_20 (by decide) ?_
      show SJ _ _ _ _ [_, _, _, _, _, _, _, _, _, _, _, _, _] _ _ _ _ _
      refine z_iconst d_Num_signOf_22 ?_
      refine j_istore d_Num_signOf_23 (by decide) ?_
      show SJ _ _ _ _ [_, _, _, _, _, _, _, _, _, _, _, _, _] _ _ _ _ _
      refine z_iconst d_Num_signOf_25 ?_
      refine j_istore d_Num_signOf_26 (by decide) ?_
      show SJ _ _ _ _ [_, _, _, _, _, _, _, _, _, _, _, _, _] _ _ _ _ _
      refine z_iconst d_Num_signOf_28 ?_
      refine j_istore d_Num_signOf_29 (by decide) ?_
      show SJ _ _ _ _ [_, _, _, _, _, _, _, _, _, _, _, _, _] _ _ _ _ _
      refine lp_sign (num := num) n0 n1 d0 d1 p0_ p1_ hw2 (R_ := nsF deep n (pl + 1 - 0).toNat 0 num 0 z0 (-1)) (fun op => hQ (by omega) (by omega) op wz) _ 0 num 0 op (-1) rfl (by omega) (by omega) (by omega) (by omega) (by omega) (by rw [show 2 * n - 0 = 2 * n by omega]; omega) ?_
      exact nsF_op (by omega) _ 0 num 0 op z0 (-1) (by omega) (by omega) (by omega) (by omega) (by rw [show 2 * n - 0 = 2 * n by omega]; omega) (fun i a b => by omega)
    · refine z_iconst d_Num_signOf_17 ?_
      exact z_iret rfl d_Num_signOf_18 rfl (hno (by omega) _)
