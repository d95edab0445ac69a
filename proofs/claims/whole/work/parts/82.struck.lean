/-- lc, under a name that no world uses -/
abbrev lcX (K : Int → Int) (n : Int) (x : Int → Int) : Int → Int := lc K 0 n x
theorem lp_cst {g : Bool} {d : Nat} {Q : List xM → Option Value → Prop} {pq0 pq1 pq2 pq3 pq4 pq5 pq6 pq7 pq8 pq9 lc fo rn rl rp td br yn yl yp : Int} {sq rs rm rd ro tm sk wd ys ym yd yo : Int → Int} {lx : Nat → Option Nat} {pr be : Int → Int → Int} {ts : List TD} {K F : Int → Int} (n0_ : 0 ≤ rn) (n1_ : rn ≤ 20) (hs : ∀ j, 0 ≤ j → j < rn → rs j = K (1 + j) ∧ 0 ≤ rs j ∧ rs j ≤ 11) (hbe : ∀ i j, 0 ≤ i → i ≤ j → j ≤ rn → be i j = ST K i j) (hST : ∀ a b, 0 ≤ a → a ≤ b → b ≤ rn → 0 ≤ ST K a b ∧ ST K a b ≤ 1980) (hQ : ∀ xk oq, (∀ j, 0 ≤ j → j < rn → xk j = F j) → Q (W_PX pq0 pq1 pq2 pq3 pq4 pq5 pq6 pq7 pq8 pq9 lc fo rn rl rp td br yn yl yp xk sq oq rs rm rd ro tm sk wd ys ym yd yo lx pr be ts) none)  : ∀ (nn : Nat) (p : Int) (top : Int) (to_ : Int) (xk : Int → Int) (oq : Int → Int), (rn - p).toNat = nn → 0 ≤ p → p ≤ rn → 0 ≤ top → top ≤ p → CSt K F rn p to_ top oq → (∀ j, 0 ≤ j → j < p → xk j = F j) → SJ g m_Pap_chooseStruck (d + 1) 10 [some (.ref 0), some (.ref 8), some (.int (ii top)), some (.int (ii (to_))), some (.int (ii p)), none] [] (W_PX pq0 pq1 pq2 pq3 pq4 pq5 pq6 pq7 pq8 pq9 lc fo rn rl rp td br yn yl yp xk sq oq rs rm rd ro tm sk wd ys ym yd yo lx pr be ts) 0 0 Q := by
  intro nn
  induction nn using Nat.strongRecOn with
  | ind nn ih =>
  intro p top to_ xk oq hn p0 p1 t0 t1 hC hx
  have hc3 := hC.2.2.1
  have hc4 := hC.2.2.2.1
  refine j_iload d_Pap_chooseStruck_10 rfl ?_
  refine j_aload_n d_Pap_chooseStruck_12 rfl ?_
  refine gf_PX_8_1 f_Pap_77 d_Pap_chooseStruck_13 ?_
  refine z_icmp_ge (t := 132) d_Pap_chooseStruck_16 (by decide) (by first | omega | exact hw _ | exact hx _ _ | assumption) (by first | omega | exact hw _ | exact hx _ _ | assumption) (fun h16 => ?_) (fun h16 => ?_)
  · exact j_return rfl d_Pap_chooseStruck_132 (hQ _ _ (fun j j0 j1 => hx j j0 (by omega)))
  · have hsp := hs p p0 (by omega)
    refine j_aload_n d_Pap_chooseStruck_19 rfl ?_
    refine gf_PX_0_10 f_Pap_42 d_Pap_chooseStruck_20 ?_
    refine j_iload d_Pap_chooseStruck_23 rfl ?_
    refine z_iconst d_Pap_chooseStruck_25 ?_
    refine as_PX_1 d_Pap_chooseStruck_26 (by omega) (by omega) (by first | exact Or.inl rfl | exact Or.inr rfl | assumption | omega) ?_
    refine j_iload d_Pap_chooseStruck_27 rfl ?_
    refine j_iload_n d_Pap_chooseStruck_29 rfl ?_
    refine z_icmp_ne (t := 50) d_Pap_chooseStruck_30 (by decide) (by first | omega | exact hw _ | exact hx _ _ | assumption) (by first | omega | exact hw _ | exact hx _ _ | assumption) (fun h30 => ?_) (fun h30 => ?_)
    · have hlt : p < to_ := by
        by_cases e : top = 0
        · have h9 := hC.1
          rw [e, EN_t] at h9
          omega
        · omega
      refine j_aload_n d_Pap_chooseStruck_50 rfl ?_
      refine gf_PX_8_0 f_Pap_98 d_Pap_chooseStruck_51 ?_
      refine j_iload d_Pap_chooseStruck_54 rfl ?_
      refine al_PX_6 d_Pap_chooseStruck_56 (by omega) (by omega) ?_
      refine s_call1 d_Pap_chooseStruck_57 c_Pap_113 (Nat.le_of_ble_eq_true rfl) (t_Row_opens (by first | omega | exact hw _ | exact hx _ _ | assumption) (fun h57 => ?_) (fun h57 => ?_))
      · refine z_if_eq (t := 109) d_Pap_chooseStruck_60 (by decide) (by first | omega | exact hw _ | exact hx _ _ | assumption) (fun h => absurd h (by decide)) (fun _ => ?_)
        have hBb : ∀ i j, 0 ≤ i → i ≤ j → j ≤ rn → 0 ≤ be i j ∧ be i j ≤ 1980 := fun i j i0 ij jn => by
          rw [hbe i j i0 ij jn]; exact hST i j i0 ij jn
        have hm := mtS_R (K := K) (a := p) (b := to_)
        refine j_aload_n d_Pap_chooseStruck_63 rfl ?_
        refine j_aload_n d_Pap_chooseStruck_64 rfl ?_
        refine gf_PX_8_0 f_Pap_98 d_Pap_chooseStruck_65 ?_
        refine j_iload d_Pap_chooseStruck_68 rfl ?_
        refine j_iload_n d_Pap_chooseStruck_70 rfl ?_
        refine v_call3 d_Pap_chooseStruck_71 c_Pap_142 rfl ⟨_, rfl, rfl⟩ (Nat.le_of_ble_eq_true rfl) (t_Pap_chooseMate (n := rn) n1_ p0 hlt (by omega) (fun j j0 j1 => (hs j j0 j1).2) (fun i j i0 ij jt hz => hBb i j (by omega) ij (by omega)) (hBb p to_ p0 (by omega) (by omega)) ?_)
        rw [cmR_eq (K := K) (n := rn) p0 hlt (by omega) hs hbe (by omega)]
        refine j_istore d_Pap_chooseStruck_74 (by decide) ?_
        show SJ _ _ _ _ [_, _, _, _, _, _] _ _ _ _ _
        refine j_iload d_Pap_chooseStruck_76 rfl ?_
        refine z_iconst d_Pap_chooseStruck_78 ?_
        refine z_icmp_ne (t := 93) d_Pap_chooseStruck_79 (by decide) (by first | omega | exact hw _ | exact hx _ _ | assumption) (by first | omega | exact hw _ | exact hx _ _ | assumption) (fun h79 => ?_) (fun h79 => ?_)
        · obtain ⟨hFp, hC2⟩ := hC.push t0 hlt (by omega)
          refine j_aload_n d_Pap_chooseStruck_93 rfl ?_
          refine gf_PX_0_16 f_Pap_65 d_Pap_chooseStruck_94 ?_
          refine j_iload_n d_Pap_chooseStruck_97 rfl ?_
          refine j_iload_n d_Pap_chooseStruck_98 rfl ?_
          refine as_PX_3 d_Pap_chooseStruck_99 (by omega) (by omega) ?_
          refine z_iinc d_Pap_chooseStruck_100 rfl (by decide) ?_
          show SJ _ _ _ _ [_, _, _, _, _, _] _ _ _ _ _
          refine j_iload d_Pap_chooseStruck_103 rfl ?_
          refine j_istore_n d_Pap_chooseStruck_105 (by decide) ?_
          show SJ _ _ _ _ [_, _, _, _, _, _] _ _ _ _ _
          refine j_goto (t := 126) d_Pap_chooseStruck_106 (by decide) ?_
          refine z_iinc d_Pap_chooseStruck_126 rfl (by decide) ?_
          show SJ _ _ _ _ [_, _, _, _, _, _] _ _ _ _ _
          refine j_goto (t := 10) d_Pap_chooseStruck_129 (by decide) ?_
          refine SJ.mask [true, true, true, true, true, false] ?_
          show SJ _ _ _ _ [_, _, _, _, _, none] _ _ _ _ _
          refine ih _ (by omega) (p + 1) _ _ _ _ rfl (by omega) (by omega) (by omega) (by omega) hC2 (fun j j0 j1 => ?_)
          by_cases e : j = p
          · rw [e, up_eq, hFp]
            all_goals (split <;> omega)
          · first
            | (rw [up_ne e, up_ne e]; exact hx j j0 (by omega))
            | (rw [up_ne e]; exact hx j j0 (by omega))
        · obtain ⟨hFp, hC2⟩ := hC.plain hlt (by omega)
          rw [if_neg (by omega)] at hFp
          refine j_aload_n d_Pap_chooseStruck_82 rfl ?_
          refine gf_PX_0_10 f_Pap_42 d_Pap_chooseStruck_83 ?_
          refine j_iload d_Pap_chooseStruck_86 rfl ?_
          refine z_iconst d_Pap_chooseStruck_88 ?_
          refine as_PX_1 d_Pap_chooseStruck_89 (by omega) (by omega) (by first | exact Or.inl rfl | exact Or.inr rfl | assumption | omega) ?_
          refine j_goto (t := 106) d_Pap_chooseStruck_90 (by decide) ?_
          refine j_goto (t := 126) d_Pap_chooseStruck_106 (by decide) ?_
          refine z_iinc d_Pap_chooseStruck_126 rfl (by decide) ?_
          show SJ _ _ _ _ [_, _, _, _, _, _] _ _ _ _ _
          refine j_goto (t := 10) d_Pap_chooseStruck_129 (by decide) ?_
          refine SJ.mask [true, true, true, true, true, false] ?_
          show SJ _ _ _ _ [_, _, _, _, _, none] _ _ _ _ _
          refine ih _ (by omega) (p + 1) _ _ _ _ rfl (by omega) (by omega) (by omega) (by omega) hC2 (fun j j0 j1 => ?_)
          by_cases e : j = p
          · rw [e, up_eq, hFp]
            all_goals (split <;> omega)
          · first
            | (rw [up_ne e, up_ne e]; exact hx j j0 (by omega))
            | (rw [up_ne e]; exact hx j j0 (by omega))
      · refine z_if_eq (t := 109) d_Pap_chooseStruck_60 (by decide) (by first | omega | exact hw _ | exact hx _ _ | assumption) (fun _ => ?_) (fun h => absurd h (by decide))
        obtain ⟨hFp, hC2⟩ := hC.plain hlt (mtS_no (by omega))
        refine j_aload_n d_Pap_chooseStruck_109 rfl ?_
        refine gf_PX_0_10 f_Pap_42 d_Pap_chooseStruck_110 ?_
        refine j_iload d_Pap_chooseStruck_113 rfl ?_
        refine j_aload_n d_Pap_chooseStruck_115 rfl ?_
        refine gf_PX_8_0 f_Pap_98 d_Pap_chooseStruck_116 ?_
        refine j_iload d_Pap_chooseStruck_119 rfl ?_
        refine al_PX_6 d_Pap_chooseStruck_121 (by omega) (by omega) ?_
        refine s_call1 d_Pap_chooseStruck_122 c_Pap_119 (Nat.le_of_ble_eq_true rfl) (t_Row_closes (by first | omega | exact hw _ | exact hx _ _ | assumption) (fun h122 => ?_) (fun h122 => ?_))
        · refine as_PX_1 d_Pap_chooseStruck_125 (by omega) (by omega) (by first | exact Or.inl rfl | exact Or.inr rfl | assumption | omega) ?_
          refine z_iinc d_Pap_chooseStruck_126 rfl (by decide) ?_
          show SJ _ _ _ _ [_, _, _, _, _, _] _ _ _ _ _
          refine j_goto (t := 10) d_Pap_chooseStruck_129 (by decide) ?_
          refine ih _ (by omega) (p + 1) _ _ _ _ rfl (by omega) (by omega) (by omega) (by omega) hC2 (fun j j0 j1 => ?_)
          by_cases e : j = p
          · rw [e, up_eq, hFp]
            all_goals (split <;> omega)
          · first
            | (rw [up_ne e, up_ne e]; exact hx j j0 (by omega))
            | (rw [up_ne e]; exact hx j j0 (by omega))
        · refine as_PX_1 d_Pap_chooseStruck_125 (by omega) (by omega) (by first | exact Or.inl rfl | exact Or.inr rfl | assumption | omega) ?_
          refine z_iinc d_Pap_chooseStruck_126 rfl (by decide) ?_
          show SJ _ _ _ _ [_, _, _, _, _, _] _ _ _ _ _
          refine j_goto (t := 10) d_Pap_chooseStruck_129 (by decide) ?_
          refine ih _ (by omega) (p + 1) _ _ _ _ rfl (by omega) (by omega) (by omega) (by omega) hC2 (fun j j0 j1 => ?_)
          by_cases e : j = p
          · rw [e, up_eq, hFp]
            all_goals (split <;> omega)
          · first
            | (rw [up_ne e, up_ne e]; exact hx j j0 (by omega))
            | (rw [up_ne e]; exact hx j j0 (by omega))
    · refine j_iload_n d_Pap_chooseStruck_33 rfl ?_
      refine z_if_le (t := 50) d_Pap_chooseStruck_34 (by decide) (by first | omega | exact hw _ | exact hx _ _ | assumption) (fun h34 => ?_) (fun h34 => ?_)
      · have hlt : p < to_ := by
          by_cases e : top = 0
          · have h9 := hC.1
            rw [e, EN_t] at h9
            omega
          · omega
        refine j_aload_n d_Pap_chooseStruck_50 rfl ?_
        refine gf_PX_8_0 f_Pap_98 d_Pap_chooseStruck_51 ?_
        refine j_iload d_Pap_chooseStruck_54 rfl ?_
        refine al_PX_6 d_Pap_chooseStruck_56 (by omega) (by omega) ?_
        refine s_call1 d_Pap_chooseStruck_57 c_Pap_113 (Nat.le_of_ble_eq_true rfl) (t_Row_opens (by first | omega | exact hw _ | exact hx _ _ | assumption) (fun h57 => ?_) (fun h57 => ?_))
        · refine z_if_eq (t := 109) d_Pap_chooseStruck_60 (by decide) (by first | omega | exact hw _ | exact hx _ _ | assumption) (fun h => absurd h (by decide)) (fun _ => ?_)
          have hBb : ∀ i j, 0 ≤ i → i ≤ j → j ≤ rn → 0 ≤ be i j ∧ be i j ≤ 1980 := fun i j i0 ij jn => by
            rw [hbe i j i0 ij jn]; exact hST i j i0 ij jn
          have hm := mtS_R (K := K) (a := p) (b := to_)
          refine j_aload_n d_Pap_chooseStruck_63 rfl ?_
          refine j_aload_n d_Pap_chooseStruck_64 rfl ?_
          refine gf_PX_8_0 f_Pap_98 d_Pap_chooseStruck_65 ?_
          refine j_iload d_Pap_chooseStruck_68 rfl ?_
          refine j_iload_n d_Pap_chooseStruck_70 rfl ?_
          refine v_call3 d_Pap_chooseStruck_71 c_Pap_142 rfl ⟨_, rfl, rfl⟩ (Nat.le_of_ble_eq_true rfl) (t_Pap_chooseMate (n := rn) n1_ p0 hlt (by omega) (fun j j0 j1 => (hs j j0 j1).2) (fun i j i0 ij jt hz => hBb i j (by omega) ij (by omega)) (hBb p to_ p0 (by omega) (by omega)) ?_)
          rw [cmR_eq (K := K) (n := rn) p0 hlt (by omega) hs hbe (by omega)]
          refine j_istore d_Pap_chooseStruck_74 (by decide) ?_
          show SJ _ _ _ _ [_, _, _, _, _, _] _ _ _ _ _
          refine j_iload d_Pap_chooseStruck_76 rfl ?_
          refine z_iconst d_Pap_chooseStruck_78 ?_
          refine z_icmp_ne (t := 93) d_Pap_chooseStruck_79 (by decide) (by first | omega | exact hw _ | exact hx _ _ | assumption) (by first | omega | exact hw _ | exact hx _ _ | assumption) (fun h79 => ?_) (fun h79 => ?_)
          · obtain ⟨hFp, hC2⟩ := hC.push t0 hlt (by omega)
            refine j_aload_n d_Pap_chooseStruck_93 rfl ?_
            refine gf_PX_0_16 f_Pap_65 d_Pap_chooseStruck_94 ?_
            refine j_iload_n d_Pap_chooseStruck_97 rfl ?_
            refine j_iload_n d_Pap_chooseStruck_98 rfl ?_
            refine as_PX_3 d_Pap_chooseStruck_99 (by omega) (by omega) ?_
            refine z_iinc d_Pap_chooseStruck_100 rfl (by decide) ?_
            show SJ _ _ _ _ [_, _, _, _, _, _] _ _ _ _ _
            refine j_iload d_Pap_chooseStruck_103 rfl ?_
            refine j_istore_n d_Pap_chooseStruck_105 (by decide) ?_
            show SJ _ _ _ _ [_, _, _, _, _, _] _ _ _ _ _
            refine j_goto (t := 126) d_Pap_chooseStruck_106 (by decide) ?_
            refine z_iinc d_Pap_chooseStruck_126 rfl (by decide) ?_
            show SJ _ _ _ _ [_, _, _, _, _, _] _ _ _ _ _
            refine j_goto (t := 10) d_Pap_chooseStruck_129 (by decide) ?_
            refine SJ.mask [true, true, true, true, true, false] ?_
            show SJ _ _ _ _ [_, _, _, _, _, none] _ _ _ _ _
            refine ih _ (by omega) (p + 1) _ _ _ _ rfl (by omega) (by omega) (by omega) (by omega) hC2 (fun j j0 j1 => ?_)
            by_cases e : j = p
            · rw [e, up_eq, hFp]
              all_goals (split <;> omega)
            · first
              | (rw [up_ne e, up_ne e]; exact hx j j0 (by omega))
              | (rw [up_ne e]; exact hx j j0 (by omega))
          · obtain ⟨hFp, hC2⟩ := hC.plain hlt (by omega)
            rw [if_neg (by omega)] at hFp
            refine j_aload_n d_Pap_chooseStruck_82 rfl ?_
            refine gf_PX_0_10 f_Pap_42 d_Pap_chooseStruck_83 ?_
            refine j_iload d_Pap_chooseStruck_86 rfl ?_
            refine z_iconst d_Pap_chooseStruck_88 ?_
            refine as_PX_1 d_Pap_chooseStruck_89 (by omega) (by omega) (by first | exact Or.inl rfl | exact Or.inr rfl | assumption | omega) ?_
            refine j_goto (t := 106) d_Pap_chooseStruck_90 (by decide) ?_
            refine j_goto (t := 126) d_Pap_chooseStruck_106 (by decide) ?_
            refine z_iinc d_Pap_chooseStruck_126 rfl (by decide) ?_
            show SJ _ _ _ _ [_, _, _, _, _, _] _ _ _ _ _
            refine j_goto (t := 10) d_Pap_chooseStruck_129 (by decide) ?_
            refine SJ.mask [true, true, true, true, true, false] ?_
            show SJ _ _ _ _ [_, _, _, _, _, none] _ _ _ _ _
            refine ih _ (by omega) (p + 1) _ _ _ _ rfl (by omega) (by omega) (by omega) (by omega) hC2 (fun j j0 j1 => ?_)
            by_cases e : j = p
            · rw [e, up_eq, hFp]
              all_goals (split <;> omega)
            · first
              | (rw [up_ne e, up_ne e]; exact hx j j0 (by omega))
              | (rw [up_ne e]; exact hx j j0 (by omega))
        · refine z_if_eq (t := 109) d_Pap_chooseStruck_60 (by decide) (by first | omega | exact hw _ | exact hx _ _ | assumption) (fun _ => ?_) (fun h => absurd h (by decide))
          obtain ⟨hFp, hC2⟩ := hC.plain hlt (mtS_no (by omega))
          refine j_aload_n d_Pap_chooseStruck_109 rfl ?_
          refine gf_PX_0_10 f_Pap_42 d_Pap_chooseStruck_110 ?_
          refine j_iload d_Pap_chooseStruck_113 rfl ?_
          refine j_aload_n d_Pap_chooseStruck_115 rfl ?_
          refine gf_PX_8_0 f_Pap_98 d_Pap_chooseStruck_116 ?_
          refine j_iload d_Pap_chooseStruck_119 rfl ?_
          refine al_PX_6 d_Pap_chooseStruck_121 (by omega) (by omega) ?_
          refine s_call1 d_Pap_chooseStruck_122 c_Pap_119 (Nat.le_of_ble_eq_true rfl) (t_Row_closes (by first | omega | exact hw _ | exact hx _ _ | assumption) (fun h122 => ?_) (fun h122 => ?_))
          · refine as_PX_1 d_Pap_chooseStruck_125 (by omega) (by omega) (by first | exact Or.inl rfl | exact Or.inr rfl | assumption | omega) ?_
            refine z_iinc d_Pap_chooseStruck_126 rfl (by decide) ?_
            show SJ _ _ _ _ [_, _, _, _, _, _] _ _ _ _ _
            refine j_goto (t := 10) d_Pap_chooseStruck_129 (by decide) ?_
            refine ih _ (by omega) (p + 1) _ _ _ _ rfl (by omega) (by omega) (by omega) (by omega) hC2 (fun j j0 j1 => ?_)
            by_cases e : j = p
            · rw [e, up_eq, hFp]
              all_goals (split <;> omega)
            · first
              | (rw [up_ne e, up_ne e]; exact hx j j0 (by omega))
              | (rw [up_ne e]; exact hx j j0 (by omega))
          · refine as_PX_1 d_Pap_chooseStruck_125 (by omega) (by omega) (by first | exact Or.inl rfl | exact Or.inr rfl | assumption | omega) ?_
            refine z_iinc d_Pap_chooseStruck_126 rfl (by decide) ?_
            show SJ _ _ _ _ [_, _, _, _, _, _] _ _ _ _ _
            refine j_goto (t := 10) d_Pap_chooseStruck_129 (by decide) ?_
            refine ih _ (by omega) (p + 1) _ _ _ _ rfl (by omega) (by omega) (by omega) (by omega) hC2 (fun j j0 j1 => ?_)
            by_cases e : j = p
            · rw [e, up_eq, hFp]
              all_goals (split <;> omega)
            · first
              | (rw [up_ne e, up_ne e]; exact hx j j0 (by omega))
              | (rw [up_ne e]; exact hx j j0 (by omega))
      · refine z_iinc d_Pap_chooseStruck_37 rfl (by decide) ?_
        show SJ _ _ _ _ [_, _, _, _, _, _] _ _ _ _ _
        rw [show top + -1 = top - 1 by omega]
        refine j_aload_n d_Pap_chooseStruck_40 rfl ?_
        refine gf_PX_0_16 f_Pap_65 d_Pap_chooseStruck_41 ?_
        refine j_iload_n d_Pap_chooseStruck_44 rfl ?_
        refine al_PX_3 d_Pap_chooseStruck_45 (by omega) (by omega) ?_
        refine j_istore_n d_Pap_chooseStruck_46 (by decide) ?_
        show SJ _ _ _ _ [_, _, _, _, _, _] _ _ _ _ _
        have hC1 : CSt K F rn to_ to_ top oq := by
          have e : p = to_ := by omega
          rw [e] at hC
          exact hC
        obtain ⟨hFp, hC2⟩ := hC1.pop (by omega)
        rw [show to_ = p by omega] at hFp hC2
        refine j_goto (t := 126) d_Pap_chooseStruck_47 (by decide) ?_
        refine z_iinc d_Pap_chooseStruck_126 rfl (by decide) ?_
        show SJ _ _ _ _ [_, _, _, _, _, _] _ _ _ _ _
        refine j_goto (t := 10) d_Pap_chooseStruck_129 (by decide) ?_
        refine ih _ (by omega) (p + 1) _ _ _ _ rfl (by omega) (by omega) (by omega) (by omega) hC2 (fun j j0 j1 => ?_)
        by_cases e : j = p
        · rw [e, up_eq, hFp]
          all_goals (split <;> omega)
        · first
          | (rw [up_ne e, up_ne e]; exact hx j j0 (by omega))
          | (rw [up_ne e]; exact hx j j0 (by omega))
theorem t_Pap_chooseStruck {g : Bool} {d : Nat} {Q : List xM → Option Value → Prop} {pq0 pq1 pq2 pq3 pq4 pq5 pq6 pq7 pq8 pq9 lc fo rn rl rp td br yn yl yp : Int} {xk sq oq rs rm rd ro tm sk wd ys ym yd yo : Int → Int} {lx : Nat → Option Nat} {pr be : Int → Int → Int} {ts : List TD} {K x : Int → Int} (n0_ : 0 ≤ rn) (n1_ : rn ≤ 20) (hs : ∀ j, 0 ≤ j → j < rn → rs j = K (1 + j) ∧ 0 ≤ rs j ∧ rs j ≤ 11) (hbe : ∀ i j, 0 ≤ i → i ≤ j → j ≤ rn → be i j = ST K i j) (hST : ∀ a b, 0 ≤ a → a ≤ b → b ≤ rn → 0 ≤ ST K a b ∧ ST K a b ≤ 1980) (hQ : ∀ xk oq, (∀ j, 0 ≤ j → j < rn → xk j = lcX K rn x j) → Q (W_PX pq0 pq1 pq2 pq3 pq4 pq5 pq6 pq7 pq8 pq9 lc fo rn rl rp td br yn yl yp xk sq oq rs rm rd ro tm sk wd ys ym yd yo lx pr be ts) none)  : CT g m_Pap_chooseStruck (d + 1) [.ref 0, .ref 8] (W_PX pq0 pq1 pq2 pq3 pq4 pq5 pq6 pq7 pq8 pq9 lc fo rn rl rp td br yn yl yp xk sq oq rs rm rd ro tm sk wd ys ym yd yo lx pr be ts) 0 0 Q := by
  refine CT.of (by decide) (Nat.le_of_ble_eq_true rfl) ?_
  show SJ _ _ _ _ [some (.ref 0), some (.ref 8), none, none, none, none] [] _ _ _ _
  refine z_iconst d_Pap_chooseStruck_0 ?_
  refine j_istore_n d_Pap_chooseStruck_1 (by decide) ?_
  show SJ _ _ _ _ [_, _, _, _, _, _] _ _ _ _ _
  refine j_aload_n d_Pap_chooseStruck_2 rfl ?_
  refine gf_PX_8_1 f_Pap_77 d_Pap_chooseStruck_3 ?_
  refine j_istore_n d_Pap_chooseStruck_6 (by decide) ?_
  show SJ _ _ _ _ [_, _, _, _, _, _] _ _ _ _ _
  refine z_iconst d_Pap_chooseStruck_7 ?_
  refine j_istore d_Pap_chooseStruck_8 (by decide) ?_
  show SJ _ _ _ _ [_, _, _, _, _, _] _ _ _ _ _
  exact lp_cst (F := lcX K rn x) n0_ n1_ hs hbe hST hQ _ 0 0 rn _ _ rfl (by omega) (by omega) (by omega) (by omega) (CSt.start n0_) (fun j j0 j1 => by omega)
