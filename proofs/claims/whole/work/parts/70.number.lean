theorem E_NU_Row {g : Bool} {y : xY} {d : Nat} {args as2 : List Value} {Q : List xM → Option Value → Prop} {rn rl rp : Int} {op pa pb rs rm rd ro : Int → Int} {wy : Int → Int → Int} (h : ∀ Q2 : List xM → Option Value → Prop, (∀ (rn_ : Int) (rl_ : Int) (rp_ : Int) (rs_ : Int → Int) (rm_ : Int → Int) (rd_ : Int → Int) (ro_ : Int → Int) (r : Option Value), r.map (r_v (sgl [5, 6, 7, 8, 9] 10)) = r → Q (W_NU rn_ rl_ rp_ op pa pb rs_ rm_ rd_ ro_ wy) r → Q2 (W_Row rn_ rl_ rp_ rs_ rm_ rd_ ro_) r) → CT false y d args (W_Row rn rl rp rs rm rd ro) 0 0 Q2) (ha2 : as2 = args.map (r_v (sgl [5, 6, 7, 8, 9] 10))) : CT g y d as2 (W_NU rn rl rp op pa pb rs rm rd ro wy) 0 0 Q :=
  CT.sub (sgl [5, 6, 7, 8, 9] 10) (sgl_inj (by decide) (by decide)) (Emb.hs (Emb.cons rfl (Emb.cons rfl (Emb.cons rfl (Emb.cons rfl (Emb.cons rfl (Emb.nil))))))) ha2 (h _ (fun _ _ _ _ _ _ _ r hr hq => ⟨rfl, by rw [hr]; exact hq⟩))
theorem lp_numb {g : Bool} {d : Nat} {Q : List xM → Option Value → Prop} {rn rl rp : Int} {op pa pb rs rm rd ro : Int → Int} {wy : Int → Int → Int} {K : Int → Int} (hR : RI K rn rl rp rs rm rd) (hKR : KR K) (hlo : lo K 0 (K 0) = 0) (hW : ∀ a b, 0 ≤ a → a ≤ rn → 0 ≤ b → b ≤ K 22 → wy a b = Wd (K 22) a b) (hQ : Q (W_NU rn rl rp op pa pb rs rm rd ro wy) (some (.long (ll (rkR K))))) : ∀ (nn : Nat) (p : Int) (h : Int) (acc : Int), (rn - p).toNat = nn → 0 ≤ p → p ≤ rn → h = dpc (mt K) (p - 1) p.toNat → Hd (∀ k : Nat, (k : Int) < p → K (1 + k) < 6 ∧ (3 ≤ K (1 + k) ∨ dp K k < K 22)) → rkF K (K 0 - p).toNat p h acc = rkF K (K 0 - 0).toNat 0 0 0 → SJ g m_Num_numberOf (d + 5) 28 [some (.ref 0), some (.ref 5), some (.int (ii (K 22))), some (.long (ll acc)), none, some (.int (ii h)), some (.int (ii p)), none, none, none] [] (W_NU rn rl rp op pa pb rs rm rd ro wy) 0 0 Q := by
  intro nn
  induction nn using Nat.strongRecOn with
  | ind nn ih =>
  intro p h acc hn p0 p1 hh hg hF
  obtain ⟨hrn, ⟨hn0, hn1⟩, hrs, hrp, hpu⟩ := id hR
  have hdp := hKR.2.2.2.1
  have hh0 := dpc_R (m := mt K) (p := p - 1) p.toNat
  refine j_iload d_Num_numberOf_28 rfl ?_
  refine j_aload_n d_Num_numberOf_30 rfl ?_
  refine gf_NU_5_1 f_Num_51 d_Num_numberOf_31 ?_
  refine z_icmp_ge (t := 140) d_Num_numberOf_34 (by decide) (by first | omega | exact hw _ | exact hx _ _ | assumption) (by first | omega | exact hw _ | exact hx _ _ | assumption) (fun h34 => ?_) (fun h34 => ?_)
  · refine j_lload_n d_Num_numberOf_140 rfl ?_
    have hyr : rkR K = acc := by
      unfold rkR
      rw [if_pos ⟨hlo, fun k hk => Hd.out hg k (by omega)⟩, ← hF, show (K 0 - p).toNat = 0 by omega]
      rfl
    exact z_lret rfl d_Num_numberOf_141 hyr.symm hQ
  · have hsp := hrs p p0 (by omega)
    have hWr := Wd_R (dp := K 22) (l := rn - p - 1) (o := h + 1) (by omega)
    rw [show (K 0 - p).toNat = (K 0 - (p + 1)).toNat + 1 by omega] at hF
    simp only [rkF] at hF
    refine j_aload_n d_Num_numberOf_37 rfl ?_
    refine gf_NU_5_0 f_Num_55 d_Num_numberOf_38 ?_
    refine j_iload d_Num_numberOf_41 rfl ?_
    refine al_NU_6 d_Num_numberOf_43 (by omega) (by omega) ?_
    refine j_istore d_Num_numberOf_44 (by decide) ?_
    show SJ _ _ _ _ [_, _, _, _, _, _, _, _, _, _] _ _ _ _ _
    refine j_iload d_Num_numberOf_46 rfl ?_
    refine j_iload_n d_Num_numberOf_48 rfl ?_
    refine z_icmp_ge (t := 74) d_Num_numberOf_49 (by decide) (by first | omega | exact hw _ | exact hx _ _ | assumption) (by first | omega | exact hw _ | exact hx _ _ | assumption) (fun h49 => ?_) (fun h49 => ?_)
    · refine z_lconst (v := 0) d_Num_numberOf_74 (by decide) ?_
      have hre : rkE K p h = 0 := by unfold rkE; rw [if_neg (by omega)]
      refine j_lstore d_Num_numberOf_75 (by decide) ?_
      show SJ _ _ _ _ [_, _, _, _, _, _, _, _, _, _] _ _ _ _ _
      refine j_iload d_Num_numberOf_77 rfl ?_
      refine s_call1 d_Num_numberOf_79 c_Num_58 (Nat.le_of_ble_eq_true rfl) (t_Row_isName (by omega) (fun h79 => ?_) (fun h79 => ?_))
      · refine z_if_ne (t := 99) d_Num_numberOf_82 (by decide) (by first | omega | exact hw _ | exact hx _ _ | assumption) (fun _ => ?_) (fun h => absurd h (by decide))
        refine z_ldc2 (w := -1) d_Num_numberOf_99 k_Num_49 (by decide) ?_
        have hnr : rkR K = -1 := by
          unfold rkR
          refine if_neg (fun z => ?_)
          have z2 := z.2 p.toNat (by omega)
          rw [Int.toNat_of_nonneg p0] at z2
          first
          | omega
          | (have hwd := whole_dp (by omega) hlo (p := p) p0 (by omega) (by omega)
             rw [hwd.1 (by omega), ← hh] at z2
             omega)
        exact z_lret rfl d_Num_numberOf_102 hnr.symm hQ
      · refine z_if_ne (t := 99) d_Num_numberOf_82 (by decide) (by first | omega | exact hw _ | exact hx _ _ | assumption) (fun h => absurd h (by decide)) (fun _ => ?_)
        refine j_iload d_Num_numberOf_85 rfl ?_
        refine s_call1 d_Num_numberOf_87 c_Num_62 (Nat.le_of_ble_eq_true rfl) (t_Row_opens (by omega) (fun h87 => ?_) (fun h87 => ?_))
        · refine z_if_eq (t := 103) d_Num_numberOf_90 (by decide) (by first | omega | exact hw _ | exact hx _ _ | assumption) (fun h => absurd h (by decide)) (fun _ => ?_)
          refine j_iload d_Num_numberOf_93 rfl ?_
          refine j_iload_n d_Num_numberOf_95 rfl ?_
          refine z_icmp_lt (t := 103) d_Num_numberOf_96 (by decide) (by first | omega | exact hw _ | exact hx _ _ | assumption) (by first | omega | exact hw _ | exact hx _ _ | assumption) (fun h96 => ?_) (fun h96 => ?_)
          · have hwd := whole_dp (by omega) hlo (p := p) p0 (by omega) (by omega)
            refine j_lload_n d_Num_numberOf_103 rfl ?_
            refine j_iload d_Num_numberOf_104 rfl ?_
            refine z_iconst d_Num_numberOf_106 ?_
            refine z_min d_Num_numberOf_107 mm_Num_65 (Nat.le_of_ble_eq_true rfl) (by first | omega | exact hw _ | exact hx _ _ | assumption) (by first | omega | exact hw _ | exact hx _ _ | assumption) ?_
            refine z_i2l d_Num_numberOf_110 (by first | omega | exact hw _ | exact hx _ _ | assumption) ?_
            refine j_lload d_Num_numberOf_111 rfl ?_
            refine z_lmul d_Num_numberOf_113 ?_
            refine z_ladd d_Num_numberOf_114 ?_
            refine j_lstore_n d_Num_numberOf_115 (by decide) ?_
            show SJ _ _ _ _ [_, _, _, _, _, _, _, _, _, _] _ _ _ _ _
            refine j_iload d_Num_numberOf_116 rfl ?_
            refine j_iload d_Num_numberOf_118 rfl ?_
            refine s_call1 d_Num_numberOf_120 c_Num_62 (Nat.le_of_ble_eq_true rfl) (t_Row_opens (by omega) (fun h120 => ?_) (fun h120 => ?_))
            · refine z_if_eq (t := 130) d_Num_numberOf_123 (by decide) (by first | omega | exact hw _ | exact hx _ _ | assumption) (fun h => absurd h (by decide)) (fun _ => ?_)
              refine z_iconst d_Num_numberOf_126 ?_
              refine j_goto (t := 131) d_Num_numberOf_127 (by decide) ?_
              refine z_iadd d_Num_numberOf_131 ?_
              refine j_istore d_Num_numberOf_132 (by decide) ?_
              show SJ _ _ _ _ [_, _, _, _, _, _, _, _, _, _] _ _ _ _ _
              refine z_iinc d_Num_numberOf_134 rfl (by decide) ?_
              show SJ _ _ _ _ [_, _, _, _, _, _, _, _, _, _] _ _ _ _ _
              refine j_goto (t := 28) d_Num_numberOf_137 (by decide) ?_
              refine SJ.mask [true, true, true, true, true, true, true, false, false, true] ?_
              show SJ _ _ _ _ [_, _, _, _, none, _, _, none, none, none] _ _ _ _ _
              first
              | (exfalso; omega)
              | (have hc3 : (if K (1 + p) < 3 then K (1 + p) else 3) = min (rs p) 3 := by
                   rw [hsp.1]
                   split <;> omega
                 rw [hc3] at hF
                 refine ih _ (by omega) (p + 1) _ _ rfl (by omega) (by omega) ?_ (fun k hk => ?_) ?_
                 · rw [show p + 1 - 1 = p by omega, hwd.2, hh]
                   first
                   | rw [if_pos (by omega)]
                   | (rw [if_neg (by omega)]; try omega)
                 · by_cases e : (k : Int) = p
                   · rw [e]
                     refine ⟨by omega, ?_⟩
                     by_cases c3 : 3 ≤ K (1 + p)
                     · exact Or.inl c3
                     · right
                       rw [hwd.1 (by omega), ← hh]
                       omega
                   · exact Hd.out hg k (by omega)
                 · rw [← hF]
                   congr 1
                   · first
                     | rw [if_pos (by omega)]
                     | (rw [if_neg (by omega)]; try omega)
                   · rw [hre]; omega)
            · refine z_if_eq (t := 130) d_Num_numberOf_123 (by decide) (by first | omega | exact hw _ | exact hx _ _ | assumption) (fun _ => ?_) (fun h => absurd h (by decide))
              refine z_iconst d_Num_numberOf_130 ?_
              refine z_iadd d_Num_numberOf_131 ?_
              refine j_istore d_Num_numberOf_132 (by decide) ?_
              show SJ _ _ _ _ [_, _, _, _, _, _, _, _, _, _] _ _ _ _ _
              refine z_iinc d_Num_numberOf_134 rfl (by decide) ?_
              show SJ _ _ _ _ [_, _, _, _, _, _, _, _, _, _] _ _ _ _ _
              refine j_goto (t := 28) d_Num_numberOf_137 (by decide) ?_
              refine SJ.mask [true, true, true, true, true, true, true, false, false, true] ?_
              show SJ _ _ _ _ [_, _, _, _, none, _, _, none, none, none] _ _ _ _ _
              first
              | (exfalso; omega)
              | (have hc3 : (if K (1 + p) < 3 then K (1 + p) else 3) = min (rs p) 3 := by
                   rw [hsp.1]
                   split <;> omega
                 rw [hc3] at hF
                 refine ih _ (by omega) (p + 1) _ _ rfl (by omega) (by omega) ?_ (fun k hk => ?_) ?_
                 · rw [show p + 1 - 1 = p by omega, hwd.2, hh]
                   first
                   | rw [if_pos (by omega)]
                   | (rw [if_neg (by omega)]; try omega)
                 · by_cases e : (k : Int) = p
                   · rw [e]
                     refine ⟨by omega, ?_⟩
                     by_cases c3 : 3 ≤ K (1 + p)
                     · exact Or.inl c3
                     · right
                       rw [hwd.1 (by omega), ← hh]
                       omega
                   · exact Hd.out hg k (by omega)
                 · rw [← hF]
                   congr 1
                   · first
                     | rw [if_pos (by omega)]
                     | (rw [if_neg (by omega)]; try omega)
                   · rw [hre]; omega)
          · refine z_ldc2 (w := -1) d_Num_numberOf_99 k_Num_49 (by decide) ?_
            have hnr : rkR K = -1 := by
              unfold rkR
              refine if_neg (fun z => ?_)
              have z2 := z.2 p.toNat (by omega)
              rw [Int.toNat_of_nonneg p0] at z2
              first
              | omega
              | (have hwd := whole_dp (by omega) hlo (p := p) p0 (by omega) (by omega)
                 rw [hwd.1 (by omega), ← hh] at z2
                 omega)
            exact z_lret rfl d_Num_numberOf_102 hnr.symm hQ
        · refine z_if_eq (t := 103) d_Num_numberOf_90 (by decide) (by first | omega | exact hw _ | exact hx _ _ | assumption) (fun _ => ?_) (fun h => absurd h (by decide))
          have hwd := whole_dp (by omega) hlo (p := p) p0 (by omega) (by omega)
          refine j_lload_n d_Num_numberOf_103 rfl ?_
          refine j_iload d_Num_numberOf_104 rfl ?_
          refine z_iconst d_Num_numberOf_106 ?_
          refine z_min d_Num_numberOf_107 mm_Num_65 (Nat.le_of_ble_eq_true rfl) (by first | omega | exact hw _ | exact hx _ _ | assumption) (by first | omega | exact hw _ | exact hx _ _ | assumption) ?_
          refine z_i2l d_Num_numberOf_110 (by first | omega | exact hw _ | exact hx _ _ | assumption) ?_
          refine j_lload d_Num_numberOf_111 rfl ?_
          refine z_lmul d_Num_numberOf_113 ?_
          refine z_ladd d_Num_numberOf_114 ?_
          refine j_lstore_n d_Num_numberOf_115 (by decide) ?_
          show SJ _ _ _ _ [_, _, _, _, _, _, _, _, _, _] _ _ _ _ _
          refine j_iload d_Num_numberOf_116 rfl ?_
          refine j_iload d_Num_numberOf_118 rfl ?_
          refine s_call1 d_Num_numberOf_120 c_Num_62 (Nat.le_of_ble_eq_true rfl) (t_Row_opens (by omega) (fun h120 => ?_) (fun h120 => ?_))
          · refine z_if_eq (t := 130) d_Num_numberOf_123 (by decide) (by first | omega | exact hw _ | exact hx _ _ | assumption) (fun h => absurd h (by decide)) (fun _ => ?_)
            refine z_iconst d_Num_numberOf_126 ?_
            refine j_goto (t := 131) d_Num_numberOf_127 (by decide) ?_
            refine z_iadd d_Num_numberOf_131 ?_
            refine j_istore d_Num_numberOf_132 (by decide) ?_
            show SJ _ _ _ _ [_, _, _, _, _, _, _, _, _, _] _ _ _ _ _
            refine z_iinc d_Num_numberOf_134 rfl (by decide) ?_
            show SJ _ _ _ _ [_, _, _, _, _, _, _, _, _, _] _ _ _ _ _
            refine j_goto (t := 28) d_Num_numberOf_137 (by decide) ?_
            refine SJ.mask [true, true, true, true, true, true, true, false, false, true] ?_
            show SJ _ _ _ _ [_, _, _, _, none, _, _, none, none, none] _ _ _ _ _
            first
            | (exfalso; omega)
            | (have hc3 : (if K (1 + p) < 3 then K (1 + p) else 3) = min (rs p) 3 := by
                 rw [hsp.1]
                 split <;> omega
               rw [hc3] at hF
               refine ih _ (by omega) (p + 1) _ _ rfl (by omega) (by omega) ?_ (fun k hk => ?_) ?_
               · rw [show p + 1 - 1 = p by omega, hwd.2, hh]
                 first
                 | rw [if_pos (by omega)]
                 | (rw [if_neg (by omega)]; try omega)
               · by_cases e : (k : Int) = p
                 · rw [e]
                   refine ⟨by omega, ?_⟩
                   by_cases c3 : 3 ≤ K (1 + p)
                   · exact Or.inl c3
                   · right
                     rw [hwd.1 (by omega), ← hh]
                     omega
                 · exact Hd.out hg k (by omega)
               · rw [← hF]
                 congr 1
                 · first
                   | rw [if_pos (by omega)]
                   | (rw [if_neg (by omega)]; try omega)
                 · rw [hre]; omega)
          · refine z_if_eq (t := 130) d_Num_numberOf_123 (by decide) (by first | omega | exact hw _ | exact hx _ _ | assumption) (fun _ => ?_) (fun h => absurd h (by decide))
            refine z_iconst d_Num_numberOf_130 ?_
            refine z_iadd d_Num_numberOf_131 ?_
            refine j_istore d_Num_numberOf_132 (by decide) ?_
            show SJ _ _ _ _ [_, _, _, _, _, _, _, _, _, _] _ _ _ _ _
            refine z_iinc d_Num_numberOf_134 rfl (by decide) ?_
            show SJ _ _ _ _ [_, _, _, _, _, _, _, _, _, _] _ _ _ _ _
            refine j_goto (t := 28) d_Num_numberOf_137 (by decide) ?_
            refine SJ.mask [true, true, true, true, true, true, true, false, false, true] ?_
            show SJ _ _ _ _ [_, _, _, _, none, _, _, none, none, none] _ _ _ _ _
            first
            | (exfalso; omega)
            | (have hc3 : (if K (1 + p) < 3 then K (1 + p) else 3) = min (rs p) 3 := by
                 rw [hsp.1]
                 split <;> omega
               rw [hc3] at hF
               refine ih _ (by omega) (p + 1) _ _ rfl (by omega) (by omega) ?_ (fun k hk => ?_) ?_
               · rw [show p + 1 - 1 = p by omega, hwd.2, hh]
                 first
                 | rw [if_pos (by omega)]
                 | (rw [if_neg (by omega)]; try omega)
               · by_cases e : (k : Int) = p
                 · rw [e]
                   refine ⟨by omega, ?_⟩
                   by_cases c3 : 3 ≤ K (1 + p)
                   · exact Or.inl c3
                   · right
                     rw [hwd.1 (by omega), ← hh]
                     omega
                 · exact Hd.out hg k (by omega)
               · rw [← hF]
                 congr 1
                 · first
                   | rw [if_pos (by omega)]
                   | (rw [if_neg (by omega)]; try omega)
                 · rw [hre]; omega)
    · refine j_aload_n d_Num_numberOf_52 rfl ?_
      refine gf_NU_0_0 f_Num_11 d_Num_numberOf_53 ?_
      refine j_aload_n d_Num_numberOf_56 rfl ?_
      refine gf_NU_5_1 f_Num_51 d_Num_numberOf_57 ?_
      refine j_iload d_Num_numberOf_60 rfl ?_
      refine z_isub d_Num_numberOf_62 ?_
      refine z_iconst d_Num_numberOf_63 ?_
      refine z_isub d_Num_numberOf_64 ?_
      refine z_aald d_Num_numberOf_65 rfl (by decide) (by omega) (by omega) (by omega) ?_
      refine j_iload d_Num_numberOf_66 rfl ?_
      refine z_iconst d_Num_numberOf_68 ?_
      refine z_iadd d_Num_numberOf_69 ?_
      refine z_lald d_Num_numberOf_70 (NU_at (by omega) (by omega)) (by omega) (by omega) (by omega) ?_
      rw [hW (rn - p - 1) (h + 1) (by omega) (by omega) (by omega) (by omega), show Wd (K 22) (rn - p - 1) (h + 1) = rkE K p h by unfold rkE; rw [if_pos (by omega), hrn]]
      refine j_goto (t := 75) d_Num_numberOf_71 (by decide) ?_
      refine j_lstore d_Num_numberOf_75 (by decide) ?_
      show SJ _ _ _ _ [_, _, _, _, _, _, _, _, _, _] _ _ _ _ _
      refine j_iload d_Num_numberOf_77 rfl ?_
      refine s_call1 d_Num_numberOf_79 c_Num_58 (Nat.le_of_ble_eq_true rfl) (t_Row_isName (by omega) (fun h79 => ?_) (fun h79 => ?_))
      · refine z_if_ne (t := 99) d_Num_numberOf_82 (by decide) (by first | omega | exact hw _ | exact hx _ _ | assumption) (fun _ => ?_) (fun h => absurd h (by decide))
        refine z_ldc2 (w := -1) d_Num_numberOf_99 k_Num_49 (by decide) ?_
        have hnr : rkR K = -1 := by
          unfold rkR
          refine if_neg (fun z => ?_)
          have z2 := z.2 p.toNat (by omega)
          rw [Int.toNat_of_nonneg p0] at z2
          first
          | omega
          | (have hwd := whole_dp (by omega) hlo (p := p) p0 (by omega) (by omega)
             rw [hwd.1 (by omega), ← hh] at z2
             omega)
        exact z_lret rfl d_Num_numberOf_102 hnr.symm hQ
      · refine z_if_ne (t := 99) d_Num_numberOf_82 (by decide) (by first | omega | exact hw _ | exact hx _ _ | assumption) (fun h => absurd h (by decide)) (fun _ => ?_)
        refine j_iload d_Num_numberOf_85 rfl ?_
        refine s_call1 d_Num_numberOf_87 c_Num_62 (Nat.le_of_ble_eq_true rfl) (t_Row_opens (by omega) (fun h87 => ?_) (fun h87 => ?_))
        · refine z_if_eq (t := 103) d_Num_numberOf_90 (by decide) (by first | omega | exact hw _ | exact hx _ _ | assumption) (fun h => absurd h (by decide)) (fun _ => ?_)
          refine j_iload d_Num_numberOf_93 rfl ?_
          refine j_iload_n d_Num_numberOf_95 rfl ?_
          refine z_icmp_lt (t := 103) d_Num_numberOf_96 (by decide) (by first | omega | exact hw _ | exact hx _ _ | assumption) (by first | omega | exact hw _ | exact hx _ _ | assumption) (fun h96 => ?_) (fun h96 => ?_)
          · have hwd := whole_dp (by omega) hlo (p := p) p0 (by omega) (by omega)
            refine j_lload_n d_Num_numberOf_103 rfl ?_
            refine j_iload d_Num_numberOf_104 rfl ?_
            refine z_iconst d_Num_numberOf_106 ?_
            refine z_min d_Num_numberOf_107 mm_Num_65 (Nat.le_of_ble_eq_true rfl) (by first | omega | exact hw _ | exact hx _ _ | assumption) (by first | omega | exact hw _ | exact hx _ _ | assumption) ?_
            refine z_i2l d_Num_numberOf_110 (by first | omega | exact hw _ | exact hx _ _ | assumption) ?_
            refine j_lload d_Num_numberOf_111 rfl ?_
            refine z_lmul d_Num_numberOf_113 ?_
            refine z_ladd d_Num_numberOf_114 ?_
            refine j_lstore_n d_Num_numberOf_115 (by decide) ?_
            show SJ _ _ _ _ [_, _, _, _, _, _, _, _, _, _] _ _ _ _ _
            refine j_iload d_Num_numberOf_116 rfl ?_
            refine j_iload d_Num_numberOf_118 rfl ?_
            refine s_call1 d_Num_numberOf_120 c_Num_62 (Nat.le_of_ble_eq_true rfl) (t_Row_opens (by omega) (fun h120 => ?_) (fun h120 => ?_))
            · refine z_if_eq (t := 130) d_Num_numberOf_123 (by decide) (by first | omega | exact hw _ | exact hx _ _ | assumption) (fun h => absurd h (by decide)) (fun _ => ?_)
              refine z_iconst d_Num_numberOf_126 ?_
              refine j_goto (t := 131) d_Num_numberOf_127 (by decide) ?_
              refine z_iadd d_Num_numberOf_131 ?_
              refine j_istore d_Num_numberOf_132 (by decide) ?_
              show SJ _ _ _ _ [_, _, _, _, _, _, _, _, _, _] _ _ _ _ _
              refine z_iinc d_Num_numberOf_134 rfl (by decide) ?_
              show SJ _ _ _ _ [_, _, _, _, _, _, _, _, _, _] _ _ _ _ _
              refine j_goto (t := 28) d_Num_numberOf_137 (by decide) ?_
              refine SJ.mask [true, true, true, true, true, true, true, false, false, true] ?_
              show SJ _ _ _ _ [_, _, _, _, none, _, _, none, none, none] _ _ _ _ _
              first
              | (exfalso; omega)
              | (have hc3 : (if K (1 + p) < 3 then K (1 + p) else 3) = min (rs p) 3 := by
                   rw [hsp.1]
                   split <;> omega
                 rw [hc3] at hF
                 refine ih _ (by omega) (p + 1) _ _ rfl (by omega) (by omega) ?_ (fun k hk => ?_) ?_
                 · rw [show p + 1 - 1 = p by omega, hwd.2, hh]
                   first
                   | rw [if_pos (by omega)]
                   | (rw [if_neg (by omega)]; try omega)
                 · by_cases e : (k : Int) = p
                   · rw [e]
                     refine ⟨by omega, ?_⟩
                     by_cases c3 : 3 ≤ K (1 + p)
                     · exact Or.inl c3
                     · right
                       rw [hwd.1 (by omega), ← hh]
                       omega
                   · exact Hd.out hg k (by omega)
                 · rw [← hF]
                   congr 1
                   · first
                     | rw [if_pos (by omega)]
                     | (rw [if_neg (by omega)]; try omega)
                   · rw [Int.mul_comm])
            · refine z_if_eq (t := 130) d_Num_numberOf_123 (by decide) (by first | omega | exact hw _ | exact hx _ _ | assumption) (fun _ => ?_) (fun h => absurd h (by decide))
              refine z_iconst d_Num_numberOf_130 ?_
              refine z_iadd d_Num_numberOf_131 ?_
              refine j_istore d_Num_numberOf_132 (by decide) ?_
              show SJ _ _ _ _ [_, _, _, _, _, _, _, _, _, _] _ _ _ _ _
              refine z_iinc d_Num_numberOf_134 rfl (by decide) ?_
              show SJ _ _ _ _ [_, _, _, _, _, _, _, _, _, _] _ _ _ _ _
              refine j_goto (t := 28) d_Num_numberOf_137 (by decide) ?_
              refine SJ.mask [true, true, true, true, true, true, true, false, false, true] ?_
              show SJ _ _ _ _ [_, _, _, _, none, _, _, none, none, none] _ _ _ _ _
              first
              | (exfalso; omega)
              | (have hc3 : (if K (1 + p) < 3 then K (1 + p) else 3) = min (rs p) 3 := by
                   rw [hsp.1]
                   split <;> omega
                 rw [hc3] at hF
                 refine ih _ (by omega) (p + 1) _ _ rfl (by omega) (by omega) ?_ (fun k hk => ?_) ?_
                 · rw [show p + 1 - 1 = p by omega, hwd.2, hh]
                   first
                   | rw [if_pos (by omega)]
                   | (rw [if_neg (by omega)]; try omega)
                 · by_cases e : (k : Int) = p
                   · rw [e]
                     refine ⟨by omega, ?_⟩
                     by_cases c3 : 3 ≤ K (1 + p)
                     · exact Or.inl c3
                     · right
                       rw [hwd.1 (by omega), ← hh]
                       omega
                   · exact Hd.out hg k (by omega)
                 · rw [← hF]
                   congr 1
                   · first
                     | rw [if_pos (by omega)]
                     | (rw [if_neg (by omega)]; try omega)
                   · rw [Int.mul_comm])
          · refine z_ldc2 (w := -1) d_Num_numberOf_99 k_Num_49 (by decide) ?_
            have hnr : rkR K = -1 := by
              unfold rkR
              refine if_neg (fun z => ?_)
              have z2 := z.2 p.toNat (by omega)
              rw [Int.toNat_of_nonneg p0] at z2
              first
              | omega
              | (have hwd := whole_dp (by omega) hlo (p := p) p0 (by omega) (by omega)
                 rw [hwd.1 (by omega), ← hh] at z2
                 omega)
            exact z_lret rfl d_Num_numberOf_102 hnr.symm hQ
        · refine z_if_eq (t := 103) d_Num_numberOf_90 (by decide) (by first | omega | exact hw _ | exact hx _ _ | assumption) (fun _ => ?_) (fun h => absurd h (by decide))
          have hwd := whole_dp (by omega) hlo (p := p) p0 (by omega) (by omega)
          refine j_lload_n d_Num_numberOf_103 rfl ?_
          refine j_iload d_Num_numberOf_104 rfl ?_
          refine z_iconst d_Num_numberOf_106 ?_
          refine z_min d_Num_numberOf_107 mm_Num_65 (Nat.le_of_ble_eq_true rfl) (by first | omega | exact hw _ | exact hx _ _ | assumption) (by first | omega | exact hw _ | exact hx _ _ | assumption) ?_
          refine z_i2l d_Num_numberOf_110 (by first | omega | exact hw _ | exact hx _ _ | assumption) ?_
          refine j_lload d_Num_numberOf_111 rfl ?_
          refine z_lmul d_Num_numberOf_113 ?_
          refine z_ladd d_Num_numberOf_114 ?_
          refine j_lstore_n d_Num_numberOf_115 (by decide) ?_
          show SJ _ _ _ _ [_, _, _, _, _, _, _, _, _, _] _ _ _ _ _
          refine j_iload d_Num_numberOf_116 rfl ?_
          refine j_iload d_Num_numberOf_118 rfl ?_
          refine s_call1 d_Num_numberOf_120 c_Num_62 (Nat.le_of_ble_eq_true rfl) (t_Row_opens (by omega) (fun h120 => ?_) (fun h120 => ?_))
          · refine z_if_eq (t := 130) d_Num_numberOf_123 (by decide) (by first | omega | exact hw _ | exact hx _ _ | assumption) (fun h => absurd h (by decide)) (fun _ => ?_)
            refine z_iconst d_Num_numberOf_126 ?_
            refine j_goto (t := 131) d_Num_numberOf_127 (by decide) ?_
            refine z_iadd d_Num_numberOf_131 ?_
            refine j_istore d_Num_numberOf_132 (by decide) ?_
            show SJ _ _ _ _ [_, _, _, _, _, _, _, _, _, _] _ _ _ _ _
            refine z_iinc d_Num_numberOf_134 rfl (by decide) ?_
            show SJ _ _ _ _ [_, _, _, _, _, _, _, _, _, _] _ _ _ _ _
            refine j_goto (t := 28) d_Num_numberOf_137 (by decide) ?_
            refine SJ.mask [true, true, true, true, true, true, true, false, false, true] ?_
            show SJ _ _ _ _ [_, _, _, _, none, _, _, none, none, none] _ _ _ _ _
            first
            | (exfalso; omega)
            | (have hc3 : (if K (1 + p) < 3 then K (1 + p) else 3) = min (rs p) 3 := by
                 rw [hsp.1]
                 split <;> omega
               rw [hc3] at hF
               refine ih _ (by omega) (p + 1) _ _ rfl (by omega) (by omega) ?_ (fun k hk => ?_) ?_
               · rw [show p + 1 - 1 = p by omega, hwd.2, hh]
                 first
                 | rw [if_pos (by omega)]
                 | (rw [if_neg (by omega)]; try omega)
               · by_cases e : (k : Int) = p
                 · rw [e]
                   refine ⟨by omega, ?_⟩
                   by_cases c3 : 3 ≤ K (1 + p)
                   · exact Or.inl c3
                   · right
                     rw [hwd.1 (by omega), ← hh]
                     omega
                 · exact Hd.out hg k (by omega)
               · rw [← hF]
                 congr 1
                 · first
                   | rw [if_pos (by omega)]
                   | (rw [if_neg (by omega)]; try omega)
                 · rw [Int.mul_comm])
          · refine z_if_eq (t := 130) d_Num_numberOf_123 (by decide) (by first | omega | exact hw _ | exact hx _ _ | assumption) (fun _ => ?_) (fun h => absurd h (by decide))
            refine z_iconst d_Num_numberOf_130 ?_
            refine z_iadd d_Num_numberOf_131 ?_
            refine j_istore d_Num_numberOf_132 (by decide) ?_
            show SJ _ _ _ _ [_, _, _, _, _, _, _, _, _, _] _ _ _ _ _
            refine z_iinc d_Num_numberOf_134 rfl (by decide) ?_
            show SJ _ _ _ _ [_, _, _, _, _, _, _, _, _, _] _ _ _ _ _
            refine j_goto (t := 28) d_Num_numberOf_137 (by decide) ?_
            refine SJ.mask [true, true, true, true, true, true, true, false, false, true] ?_
            show SJ _ _ _ _ [_, _, _, _, none, _, _, none, none, none] _ _ _ _ _
            first
            | (exfalso; omega)
            | (have hc3 : (if K (1 + p) < 3 then K (1 + p) else 3) = min (rs p) 3 := by
                 rw [hsp.1]
                 split <;> omega
               rw [hc3] at hF
               refine ih _ (by omega) (p + 1) _ _ rfl (by omega) (by omega) ?_ (fun k hk => ?_) ?_
               · rw [show p + 1 - 1 = p by omega, hwd.2, hh]
                 first
                 | rw [if_pos (by omega)]
                 | (rw [if_neg (by omega)]; try omega)
               · by_cases e : (k : Int) = p
                 · rw [e]
                   refine ⟨by omega, ?_⟩
                   by_cases c3 : 3 ≤ K (1 + p)
                   · exact Or.inl c3
                   · right
                     rw [hwd.1 (by omega), ← hh]
                     omega
                 · exact Hd.out hg k (by omega)
               · rw [← hF]
                 congr 1
                 · first
                   | rw [if_pos (by omega)]
                   | (rw [if_neg (by omega)]; try omega)
                 · rw [Int.mul_comm])
theorem t_Num_numberOf {g : Bool} {d : Nat} {Q : List xM → Option Value → Prop} {rn rl rp : Int} {op pa pb rs rm rd ro : Int → Int} {wy : Int → Int → Int} {K : Int → Int} (hR : RI K rn rl rp rs rm rd) (hKR : KR K) (hQ : ∀ rl rp rm rd ro wy, RI K rn rl rp rs rm rd → Q (W_NU rn rl rp op pa pb rs rm rd ro wy) (some (.long (ll (rkR K))))) : CT g m_Num_numberOf (d + 5) [.ref 0, .ref 5, .int (ii (K 22))] (W_NU rn rl rp op pa pb rs rm rd ro wy) 0 0 Q := by
  refine CT.of (by decide) (Nat.le_of_ble_eq_true rfl) ?_
  show SJ _ _ _ _ [some (.ref 0), some (.ref 5), some (.int (ii (K 22))), none, none, none, none, none, none, none] [] _ _ _ _
  obtain ⟨hrn, ⟨hn0, hn1⟩, hrs, hrp, hpu⟩ := id hR
  have hdp := hKR.2.2.2.1
  refine j_aload_n d_Num_numberOf_0 rfl ?_
  refine v_call0 d_Num_numberOf_1 c_Num_43 rfl ⟨_, rfl, rfl⟩ (Nat.le_of_ble_eq_true rfl) (E_NU_Row (fun Q2 kz => t_Row_isAllWhole hR (fun h1 rl2 rp2 rm2 rd2 ro2 hR2 => kz _ _ _ _ _ _ _ _ rfl ?_) (fun h1 rl2 rp2 rm2 rd2 ro2 hR2 => kz _ _ _ _ _ _ _ _ rfl ?_)) rfl)
  · refine z_if_ne (t := 11) d_Num_numberOf_4 (by decide) (by first | omega | exact hw _ | exact hx _ _ | assumption) (fun _ => ?_) (fun h => absurd h (by decide))
    refine j_aload_n d_Num_numberOf_11 rfl ?_
    refine j_aload_n d_Num_numberOf_12 rfl ?_
    refine gf_NU_5_1 f_Num_51 d_Num_numberOf_13 ?_
    refine j_iload_n d_Num_numberOf_16 rfl ?_
    refine v_call2 d_Num_numberOf_17 c_Num_35 rfl ⟨_, rfl, rfl⟩ (Nat.le_of_ble_eq_true rfl) (t_Num_findWays (deep := K 22) (by omega) (by omega) (by omega) (by omega) (fun wz hw2 => ?_))
    refine z_lconst (v := 0) d_Num_numberOf_20 (by decide) ?_
    refine j_lstore_n d_Num_numberOf_21 (by decide) ?_
    show SJ _ _ _ _ [_, _, _, _, _, _, _, _, _, _] _ _ _ _ _
    refine z_iconst d_Num_numberOf_22 ?_
    refine j_istore d_Num_numberOf_23 (by decide) ?_
    show SJ _ _ _ _ [_, _, _, _, _, _, _, _, _, _] _ _ _ _ _
    refine z_iconst d_Num_numberOf_25 ?_
    refine j_istore d_Num_numberOf_26 (by decide) ?_
    show SJ _ _ _ _ [_, _, _, _, _, _, _, _, _, _] _ _ _ _ _
    exact lp_numb hR2 hKR h1 hw2 (hQ _ _ _ _ _ _ hR2) _ 0 0 0 rfl (by omega) (by omega) rfl (fun k hk => by omega) rfl
  · refine z_if_ne (t := 11) d_Num_numberOf_4 (by decide) (by first | omega | exact hw _ | exact hx _ _ | assumption) (fun h => absurd h (by decide)) (fun _ => ?_)
    refine z_ldc2 (w := -1) d_Num_numberOf_7 k_Num_49 (by decide) ?_
    exact z_lret rfl d_Num_numberOf_10 (by unfold rkR; rw [if_neg (fun z => h1 z.1)]) (hQ _ _ _ _ _ _ hR2)
