def flF (K : Int → Int) (people : Int) : Nat → Int → Int × Int → Int × Int
  | 0, _, x => x
  | n + 1, p, x => flF K people n (p + 1) (if sai K people p then (min x.1 p, p) else x)
def hc2 (K : Int → Int) (pr : Int → Int → Int) (a : Int) : Nat → Int → Int × Int × Int × Int → Int × Int × Int × Int
  | 0, _, x => x
  | n + 1, b, x => hc2 K pr a n (b + 1) (if lo K a b = 0 then thF pr a b 3 0 x else x)
def hc1 (K : Int → Int) (pr : Int → Int → Int) (l : Int) : Nat → Int → Int × Int × Int × Int → Int × Int × Int × Int
  | 0, _, x => x
  | n + 1, a, x => hc1 K pr l n (a + 1) (hc2 K pr a (K 0 + 1 - (l + 1)).toNat (l + 1) x)
theorem hc2_s {K : Int → Int} {pr : Int → Int → Int} {a b : Int} {n : Nat} {x : Int × Int × Int × Int} : hc2 K pr a (n + 1) b x = hc2 K pr a n (b + 1) (if lo K a b = 0 then thF pr a b 3 0 x else x) := rfl
theorem hc2_0 {K : Int → Int} {pr : Int → Int → Int} {a b : Int} {x : Int × Int × Int × Int} : hc2 K pr a 0 b x = x := rfl
theorem hc1_s {K : Int → Int} {pr : Int → Int → Int} {l a : Int} {n : Nat} {x : Int × Int × Int × Int} : hc1 K pr l (n + 1) a x = hc1 K pr l n (a + 1) (hc2 K pr a (K 0 + 1 - (l + 1)).toNat (l + 1) x) := rfl
theorem flF_s {K : Int → Int} {people p : Int} {n : Nat} {x : Int × Int} : flF K people (n + 1) p x = flF K people n (p + 1) (if sai K people p then (min x.1 p, p) else x) := rfl
abbrev hcR (x : Int × Int × Int × Int) : Prop := 0 ≤ x.1 ∧ x.1 ≤ 100000000 ∧ R32 x.2.1
theorem thF_R {pr : Int → Int → Int} {a b : Int} (hp : ∀ s, 0 ≤ s → s < 6 → 0 ≤ pr s a ∧ 0 ≤ pr s b) : ∀ (n : Nat) (k : Int) (x : Int × Int × Int × Int), 0 ≤ k → k + n ≤ 3 → hcR x → hcR (thF pr a b n k x)
  | 0, k, x, _, _, h => h
  | n + 1, k, x, h0, h1, h => by
    show hcR (thF pr a b n (k + 1) (thS pr a b k x))
    refine thF_R hp n (k + 1) _ (by omega) (by omega) ?_
    have p1 := hp k h0 (by omega)
    have p2 := hp (k + 3) (by omega) (by omega)
    obtain ⟨h2, h3, h4⟩ := h
    unfold thS
    split
    · next z =>
      refine ⟨?_, ?_, ?_⟩
      · show 0 ≤ pr k a + pr (k + 3) b
        omega
      · show pr k a + pr (k + 3) b ≤ 100000000
        omega
      · show R32 k
        omega
    · exact ⟨h2, h3, h4⟩
theorem lp_hid1 {g : Bool} {d : Nat} {Q : List xM → Option Value → Prop} {pq0 pq1 pq2 pq3 pq4 pq5 lc fo rn td br yn yl yp : Int} {xk sq oq rs tm sk wd ys ym yd yo : Int → Int} {lx : Nat → Option Nat} {pr be : Int → Int → Int} {ts : List TD} {K : Int → Int} (hn_ : rn = K 0) (n0_ : 0 ≤ rn) (n1_ : rn ≤ 20) (hP : ∀ s p, 0 ≤ s → s < 6 → 0 ≤ p → p ≤ rn → 0 ≤ pr s p ∧ (pr s p ≤ 99 ∨ pr s p = 100000000)) {f_ l_ : Int} (f0_ : 0 ≤ f_) (f1_ : f_ ≤ rn) (l0_ : -1 ≤ l_) (l1_ : l_ < rn) (fl_ : f_ ≤ l_) {x0 : Int × Int × Int × Int} {a : Int} (a0_ : 0 ≤ a) (a1_ : a ≤ f_) (hkk : ∀ rl rp rm rd ro pq6 pq7 pq8 pq9, RI K rn rl rp rs rm rd → hcR (pq6, pq7, pq8, pq9) → (pq6, pq7, pq8, pq9) = hc2 K pr a (K 0 + 1 - (l_ + 1)).toNat (l_ + 1) x0 → SJ g m_Pap_hides (d + 5) 147 [some (.ref 0), some (.ref 7), none, some (.ref 8), some (.int (ii f_)), some (.int (ii l_)), some (.int (ii a)), none] [] (W_PX pq0 pq1 pq2 pq3 pq4 pq5 pq6 pq7 pq8 pq9 lc fo rn rl rp td br yn yl yp xk sq oq rs rm rd ro tm sk wd ys ym yd yo lx pr be ts) 0 0 Q) : ∀ (nn : Nat) (b : Int) (pq6 : Int) (pq7 : Int) (pq8 : Int) (pq9 : Int) (rl : Int) (rp : Int) (rm : Int → Int) (rd : Int → Int) (ro : Int → Int), (rn + 1 - b).toNat = nn → l_ + 1 ≤ b → b ≤ rn + 1 → hcR (pq6, pq7, pq8, pq9) → RI K rn rl rp rs rm rd → hc2 K pr a (K 0 + 1 - b).toNat b (pq6, pq7, pq8, pq9) = hc2 K pr a (K 0 + 1 - (l_ + 1)).toNat (l_ + 1) x0 → SJ g m_Pap_hides (d + 5) 111 [some (.ref 0), some (.ref 7), none, some (.ref 8), some (.int (ii (f_))), some (.int (ii (l_))), some (.int (ii a)), some (.int (ii b))] [] (W_PX pq0 pq1 pq2 pq3 pq4 pq5 pq6 pq7 pq8 pq9 lc fo rn rl rp td br yn yl yp xk sq oq rs rm rd ro tm sk wd ys ym yd yo lx pr be ts) 0 0 Q := by
  intro nn
  induction nn using Nat.strongRecOn with
  | ind nn ih =>
  intro b pq6 pq7 pq8 pq9 rl rp rm rd ro hn b0 b1 hx hR hF
  obtain ⟨hx1, hx2, hx3⟩ := id hx
  dsimp only at hx1 hx2 hx3
  refine j_iload d_Pap_hides_111 rfl ?_
  refine j_aload_n d_Pap_hides_113 rfl ?_
  refine gf_PX_8_1 f_Pap_77 d_Pap_hides_114 ?_
  refine z_icmp_gt (t := 147) d_Pap_hides_117 (by decide) (by first | omega | exact hw _ | exact hx _ _ | assumption) (by first | omega | exact hw _ | exact hx _ _ | assumption) (fun h117 => ?_) (fun h117 => ?_)
  · rw [show (K 0 + 1 - b).toNat = 0 by omega, hc2_0] at hF
    refine SJ.mask [true, true, true, true, true, true, true, false] ?_
    show SJ _ _ _ _ [_, _, none, _, _, _, _, none] _ _ _ _ _
    exact hkk _ _ _ _ _ pq6 pq7 pq8 pq9 hR hx hF
  · rw [show (K 0 + 1 - b).toNat = (K 0 + 1 - (b + 1)).toNat + 1 by omega, hc2_s] at hF
    refine j_aload_n d_Pap_hides_120 rfl ?_
    refine j_iload d_Pap_hides_121 rfl ?_
    refine j_iload d_Pap_hides_123 rfl ?_
    refine z_iconst d_Pap_hides_125 ?_
    refine z_isub d_Pap_hides_126 ?_
    refine v_call2 d_Pap_hides_127 c_Pap_145 rfl ⟨_, rfl, rfl⟩ (Nat.le_of_ble_eq_true rfl) (E_PX_Row (fun Q2 kz => t_Row_isWhole hR (by omega) (by omega) (by omega) (fun h127 rl2 rp2 rm2 rd2 ro2 hR2 => kz _ _ _ _ _ _ _ _ rfl ?_) (fun h127 rl2 rp2 rm2 rd2 ro2 hR2 => kz _ _ _ _ _ _ _ _ rfl ?_)) rfl)
    · rw [show b - 1 + 1 = b by omega] at h127
      refine z_if_eq (t := 141) d_Pap_hides_130 (by decide) (by first | omega | exact hw _ | exact hx _ _ | assumption) (fun h => absurd h (by decide)) (fun _ => ?_)
      obtain ⟨q6, q7, q8, q9, hq⟩ : ∃ q6 q7 q8 q9, thF pr a b 3 0 (pq6, pq7, pq8, pq9) = (q6, q7, q8, q9) := ⟨_, _, _, _, rfl⟩
      have hqR := thF_R (pr := pr) (a := a) (b := b) (fun s s0 s1 => ⟨(hP s a s0 s1 (by omega) (by omega)).1, (hP s b s0 s1 (by omega) (by omega)).1⟩) 3 0 (pq6, pq7, pq8, pq9) (by omega) (by decide) hx
      rw [hq] at hqR
      refine j_aload_n d_Pap_hides_133 rfl ?_
      refine j_iload d_Pap_hides_134 rfl ?_
      refine j_iload d_Pap_hides_136 rfl ?_
      refine v_call2 d_Pap_hides_138 c_Pap_166 rfl ⟨_, rfl, rfl⟩ (Nat.le_of_ble_eq_true rfl) (t_Pap_tryHiding (n := rn) n1_ (by omega) (by omega) (by omega) (by omega) hP (by omega) (by omega) hq ?_)
      refine z_iinc d_Pap_hides_141 rfl (by decide) ?_
      show SJ _ _ _ _ [_, _, _, _, _, _, _, _] _ _ _ _ _
      refine j_goto (t := 111) d_Pap_hides_144 (by decide) ?_
      first
      | (have fnd2_ := hqR
         rw [if_pos h127, hq] at hF
         exact ih _ (by omega) (b + 1) _ _ _ _ _ _ _ _ _ rfl (by omega) (by omega) hqR hR2 hF)
      | (rw [if_neg h127] at hF
         exact ih _ (by omega) (b + 1) _ _ _ _ _ _ _ _ _ rfl (by omega) (by omega) hx hR2 hF)
    · rw [show b - 1 + 1 = b by omega] at h127
      refine z_if_eq (t := 141) d_Pap_hides_130 (by decide) (by first | omega | exact hw _ | exact hx _ _ | assumption) (fun _ => ?_) (fun h => absurd h (by decide))
      refine z_iinc d_Pap_hides_141 rfl (by decide) ?_
      show SJ _ _ _ _ [_, _, _, _, _, _, _, _] _ _ _ _ _
      refine j_goto (t := 111) d_Pap_hides_144 (by decide) ?_
      first
      | (have fnd2_ := hqR
         rw [if_pos h127, hq] at hF
         exact ih _ (by omega) (b + 1) _ _ _ _ _ _ _ _ _ rfl (by omega) (by omega) hqR hR2 hF)
      | (rw [if_neg h127] at hF
         exact ih _ (by omega) (b + 1) _ _ _ _ _ _ _ _ _ rfl (by omega) (by omega) hx hR2 hF)
theorem lp_hid2 {g : Bool} {d : Nat} {Q : List xM → Option Value → Prop} {pq0 pq1 pq2 pq3 pq4 pq5 lc fo rn td br yn yl yp : Int} {xk sq oq rs tm sk wd ys ym yd yo : Int → Int} {lx : Nat → Option Nat} {pr be : Int → Int → Int} {ts : List TD} {K : Int → Int} (hn_ : rn = K 0) (n0_ : 0 ≤ rn) (n1_ : rn ≤ 20) (hP : ∀ s p, 0 ≤ s → s < 6 → 0 ≤ p → p ≤ rn → 0 ≤ pr s p ∧ (pr s p ≤ 99 ∨ pr s p = 100000000)) {f_ l_ : Int} (f0_ : 0 ≤ f_) (f1_ : f_ ≤ rn) (l0_ : -1 ≤ l_) (l1_ : l_ < rn) (fl_ : f_ ≤ l_) {x0 : Int × Int × Int × Int} (hQ : ∀ rl rp rm rd ro pq6 pq7 pq8 pq9, RI K rn rl rp rs rm rd → hcR (pq6, pq7, pq8, pq9) → hc1 K pr l_ (f_ + 1 - 0).toNat 0 x0 = (pq6, pq7, pq8, pq9) → (pq6 < 100000000 → Q (W_PX pq0 pq1 pq2 pq3 pq4 pq5 pq6 pq7 pq8 pq9 lc fo rn rl rp td br yn yl yp xk sq oq rs rm rd ro tm sk wd ys ym yd yo lx pr be ts) (some (.int (ii 1)))) ∧ (¬ pq6 < 100000000 → Q (W_PX pq0 pq1 pq2 pq3 pq4 pq5 pq6 pq7 pq8 pq9 lc fo rn rl rp td br yn yl yp xk sq oq rs rm rd ro tm sk wd ys ym yd yo lx pr be ts) (some (.int (ii 0)))))  : ∀ (nn : Nat) (a : Int) (pq6 : Int) (pq7 : Int) (pq8 : Int) (pq9 : Int) (rl : Int) (rp : Int) (rm : Int → Int) (rd : Int → Int) (ro : Int → Int), (f_ + 1 - a).toNat = nn → 0 ≤ a → a ≤ f_ + 1 → hcR (pq6, pq7, pq8, pq9) → RI K rn rl rp rs rm rd → hc1 K pr l_ (f_ + 1 - a).toNat a (pq6, pq7, pq8, pq9) = hc1 K pr l_ (f_ + 1 - 0).toNat 0 x0 → SJ g m_Pap_hides (d + 5) 98 [some (.ref 0), some (.ref 7), none, some (.ref 8), some (.int (ii (f_))), some (.int (ii (l_))), some (.int (ii a)), none] [] (W_PX pq0 pq1 pq2 pq3 pq4 pq5 pq6 pq7 pq8 pq9 lc fo rn rl rp td br yn yl yp xk sq oq rs rm rd ro tm sk wd ys ym yd yo lx pr be ts) 0 0 Q := by
  intro nn
  induction nn using Nat.strongRecOn with
  | ind nn ih =>
  intro a pq6 pq7 pq8 pq9 rl rp rm rd ro hn a0_ a1_ hx hR hF
  obtain ⟨hx1, hx2, hx3⟩ := id hx
  dsimp only at hx1 hx2 hx3
  refine j_iload d_Pap_hides_98 rfl ?_
  refine j_iload d_Pap_hides_100 rfl ?_
  refine z_icmp_gt (t := 153) d_Pap_hides_102 (by decide) (by first | omega | exact hw _ | exact hx _ _ | assumption) (by first | omega | exact hw _ | exact hx _ _ | assumption) (fun h102 => ?_) (fun h102 => ?_)
  · rw [show (f_ + 1 - a).toNat = 0 by omega] at hF
    have hF2 : hc1 K pr l_ 0 a (pq6, pq7, pq8, pq9) = (pq6, pq7, pq8, pq9) := rfl
    rw [hF2] at hF
    obtain ⟨hy, hno⟩ := hQ _ _ _ _ _ pq6 pq7 pq8 pq9 hR hx hF.symm
    refine j_aload_n d_Pap_hides_153 rfl ?_
    refine gf_PX_0_6 f_Pap_30 d_Pap_hides_154 ?_
    refine z_ldc (w := 100000000) d_Pap_hides_157 k_Pap_86 (by decide) ?_
    refine z_icmp_ge (t := 166) d_Pap_hides_159 (by decide) (by first | omega | exact hw _ | exact hx _ _ | assumption) (by first | omega | exact hw _ | exact hx _ _ | assumption) (fun h159 => ?_) (fun h159 => ?_)
    · refine z_iconst d_Pap_hides_166 ?_
      first
      | exact z_zreturn rfl (Or.inr rfl) d_Pap_hides_167 (hy (by omega))
      | exact z_zreturn rfl (Or.inl rfl) d_Pap_hides_167 (hno (by omega))
    · refine z_iconst d_Pap_hides_162 ?_
      refine j_goto (t := 167) d_Pap_hides_163 (by decide) ?_
      first
      | exact z_zreturn rfl (Or.inr rfl) d_Pap_hides_167 (hy (by omega))
      | exact z_zreturn rfl (Or.inl rfl) d_Pap_hides_167 (hno (by omega))
  · rw [show (f_ + 1 - a).toNat = (f_ + 1 - (a + 1)).toNat + 1 by omega, hc1_s] at hF
    refine j_iload d_Pap_hides_105 rfl ?_
    refine z_iconst d_Pap_hides_107 ?_
    refine z_iadd d_Pap_hides_108 ?_
    refine j_istore d_Pap_hides_109 (by decide) ?_
    show SJ _ _ _ _ [_, _, _, _, _, _, _, _] _ _ _ _ _
    refine lp_hid1 (x0 := (pq6, pq7, pq8, pq9)) hn_ n0_ n1_ hP f0_ f1_ l0_ l1_ fl_ a0_ (by omega) (fun rl rp rm rd ro y6 y7 y8 y9 hR2 hy2 hy => ?_) _ (l_ + 1) _ _ _ _ _ _ _ _ _ rfl (by omega) (by omega) hx hR rfl
    rw [← hy] at hF
    refine z_iinc d_Pap_hides_147 rfl (by decide) ?_
    show SJ _ _ _ _ [_, _, _, _, _, _, _, _] _ _ _ _ _
    refine j_goto (t := 98) d_Pap_hides_150 (by decide) ?_
    exact ih _ (by omega) (a + 1) _ _ _ _ _ _ _ _ _ rfl (by omega) (by omega) hy2 hR2 hF
theorem lp_hid3 {g : Bool} {d : Nat} {Q : List xM → Option Value → Prop} {pq0 pq1 pq2 pq3 pq4 pq5 pq6 pq7 pq8 pq9 lc fo rn td br yn yl yp : Int} {xk sq oq rs tm sk wd ys ym yd yo : Int → Int} {lx : Nat → Option Nat} {pr be : Int → Int → Int} {ts : List TD} {K : Int → Int} (hn_ : rn = K 0) (n0_ : 0 ≤ rn) (n1_ : rn ≤ 20) {people f_ l_ : Int} (hkk : ∀ rl rp rm rd ro, RI K rn rl rp rs rm rd → (0 ≤ f_ ∧ f_ ≤ rn ∧ -1 ≤ l_ ∧ l_ < rn ∧ (l_ = -1 ∨ f_ ≤ l_)) → SJ g m_Pap_hides (d + 5) 68 [some (.ref 0), some (.ref 7), some (.int (ii people)), some (.ref 8), some (.int (ii f_)), some (.int (ii l_)), none, none] [] (W_PX pq0 pq1 pq2 pq3 pq4 pq5 pq6 pq7 pq8 pq9 lc fo rn rl rp td br yn yl yp xk sq oq rs rm rd ro tm sk wd ys ym yd yo lx pr be ts) 0 0 Q) : ∀ (nn : Nat) (p : Int) (first : Int) (last : Int) (rl : Int) (rp : Int) (rm : Int → Int) (rd : Int → Int) (ro : Int → Int), (rn - p).toNat = nn → 0 ≤ p → p ≤ rn → 0 ≤ first → first ≤ rn → -1 ≤ last → last < p → (last = -1 ∨ first ≤ last) → RI K rn rl rp rs rm rd → flF K people (rn - p).toNat p (first, last) = (f_, l_) → SJ g m_Pap_hides (d + 5) 17 [some (.ref 0), some (.ref 7), some (.int (ii people)), some (.ref 8), some (.int (ii first)), some (.int (ii last)), some (.int (ii p)), none] [] (W_PX pq0 pq1 pq2 pq3 pq4 pq5 pq6 pq7 pq8 pq9 lc fo rn rl rp td br yn yl yp xk sq oq rs rm rd ro tm sk wd ys ym yd yo lx pr be ts) 0 0 Q := by
  intro nn
  induction nn using Nat.strongRecOn with
  | ind nn ih =>
  intro p first last rl rp rm rd ro hn p0 p1 f0 f1 l0 l1 l2 hR hF
  refine j_iload d_Pap_hides_17 rfl ?_
  refine j_aload_n d_Pap_hides_19 rfl ?_
  refine gf_PX_8_1 f_Pap_77 d_Pap_hides_20 ?_
  refine z_icmp_ge (t := 68) d_Pap_hides_23 (by decide) (by first | omega | exact hw _ | exact hx _ _ | assumption) (by first | omega | exact hw _ | exact hx _ _ | assumption) (fun h23 => ?_) (fun h23 => ?_)
  · rw [show (rn - p).toNat = 0 by omega] at hF
    have hF2 : (first, last) = (f_, l_) := hF
    cases hF2
    refine SJ.mask [true, true, true, true, true, true, false, true] ?_
    show SJ _ _ _ _ [_, _, _, _, _, _, none, none] _ _ _ _ _
    exact hkk _ _ _ _ _ hR (by omega)
  · have hsp := hR.2.2.1 p p0 (by omega)
    have hdp : 0 ≤ dp K p ∧ dp K p ≤ 20 := by
      have h9 := dpc_R (m := mt K) (p := p) p.toNat
      unfold dp
      omega
    rw [show (rn - p).toNat = (rn - (p + 1)).toNat + 1 by omega, flF_s] at hF
    refine j_iload_n d_Pap_hides_26 rfl ?_
    refine j_aload_n d_Pap_hides_27 rfl ?_
    refine gf_PX_8_0 f_Pap_98 d_Pap_hides_28 ?_
    refine j_iload d_Pap_hides_31 rfl ?_
    refine al_PX_6 d_Pap_hides_33 (by omega) (by omega) ?_
    refine s_call2 d_Pap_hides_34 c_Pap_160 (Nat.le_of_ble_eq_true rfl) (t_Pap_isOneOf (by omega) (fun h34 => ?_) (fun h34 => ?_))
    · rw [hsp.1] at h34
      refine z_if_eq (t := 62) d_Pap_hides_37 (by decide) (by first | omega | exact hw _ | exact hx _ _ | assumption) (fun h => absurd h (by decide)) (fun _ => ?_)
      refine j_aload_n d_Pap_hides_40 rfl ?_
      refine j_iload d_Pap_hides_41 rfl ?_
      refine v_call1 d_Pap_hides_43 c_Pap_163 rfl ⟨_, rfl, rfl⟩ (Nat.le_of_ble_eq_true rfl) (E_PX_Row (fun Q2 kz => t_Row_depthOf hR p0 (by omega) (fun rl2 rp2 rm2 rd2 ro2 hR2 => kz _ _ _ _ _ _ _ _ rfl ?_)) rfl)
      refine z_if_ne (t := 62) d_Pap_hides_46 (by decide) (by first | omega | exact hw _ | exact hx _ _ | assumption) (fun h46 => ?_) (fun h46 => ?_)
      · refine z_iinc d_Pap_hides_62 rfl (by decide) ?_
        show SJ _ _ _ _ [_, _, _, _, _, _, _, _] _ _ _ _ _
        refine j_goto (t := 17) d_Pap_hides_65 (by decide) ?_
        first
        | (have fnd2_ := fnd_
           rw [if_pos ⟨h34.1, h34.2, by omega⟩] at hF
           exact ih _ (by omega) (p + 1) _ _ _ _ _ _ _ rfl (by omega) (by omega) (by omega) (by omega) (by omega) (by omega) (by omega) hR2 hF)
        | (rw [if_neg (fun z => h34 ⟨z.1, z.2.1⟩)] at hF
           exact ih _ (by omega) (p + 1) _ _ _ _ _ _ _ rfl (by omega) (by omega) (by omega) (by omega) (by omega) (by omega) (by omega) hR hF)
        | (rw [if_neg (fun z => by have z1_ := z.2.2; omega)] at hF
           exact ih _ (by omega) (p + 1) _ _ _ _ _ _ _ rfl (by omega) (by omega) (by omega) (by omega) (by omega) (by omega) (by omega) hR2 hF)
      · have fnd_ := h34
        refine j_iload d_Pap_hides_49 rfl ?_
        refine j_iload d_Pap_hides_51 rfl ?_
        refine z_min d_Pap_hides_53 mm_Pap_130 (Nat.le_of_ble_eq_true rfl) (by first | omega | exact hw _ | exact hx _ _ | assumption) (by first | omega | exact hw _ | exact hx _ _ | assumption) ?_
        refine j_istore d_Pap_hides_56 (by decide) ?_
        show SJ _ _ _ _ [_, _, _, _, _, _, _, _] _ _ _ _ _
        refine j_iload d_Pap_hides_58 rfl ?_
        refine j_istore d_Pap_hides_60 (by decide) ?_
        show SJ _ _ _ _ [_, _, _, _, _, _, _, _] _ _ _ _ _
        refine z_iinc d_Pap_hides_62 rfl (by decide) ?_
        show SJ _ _ _ _ [_, _, _, _, _, _, _, _] _ _ _ _ _
        refine j_goto (t := 17) d_Pap_hides_65 (by decide) ?_
        first
        | (have fnd2_ := fnd_
           rw [if_pos ⟨h34.1, h34.2, by omega⟩] at hF
           exact ih _ (by omega) (p + 1) _ _ _ _ _ _ _ rfl (by omega) (by omega) (by omega) (by omega) (by omega) (by omega) (by omega) hR2 hF)
        | (rw [if_neg (fun z => h34 ⟨z.1, z.2.1⟩)] at hF
           exact ih _ (by omega) (p + 1) _ _ _ _ _ _ _ rfl (by omega) (by omega) (by omega) (by omega) (by omega) (by omega) (by omega) hR hF)
        | (rw [if_neg (fun z => by have z1_ := z.2.2; omega)] at hF
           exact ih _ (by omega) (p + 1) _ _ _ _ _ _ _ rfl (by omega) (by omega) (by omega) (by omega) (by omega) (by omega) (by omega) hR2 hF)
    · rw [hsp.1] at h34
      refine z_if_eq (t := 62) d_Pap_hides_37 (by decide) (by first | omega | exact hw _ | exact hx _ _ | assumption) (fun _ => ?_) (fun h => absurd h (by decide))
      refine z_iinc d_Pap_hides_62 rfl (by decide) ?_
      show SJ _ _ _ _ [_, _, _, _, _, _, _, _] _ _ _ _ _
      refine j_goto (t := 17) d_Pap_hides_65 (by decide) ?_
      first
      | (have fnd2_ := fnd_
         rw [if_pos ⟨h34.1, h34.2, by omega⟩] at hF
         exact ih _ (by omega) (p + 1) _ _ _ _ _ _ _ rfl (by omega) (by omega) (by omega) (by omega) (by omega) (by omega) (by omega) hR2 hF)
      | (rw [if_neg (fun z => h34 ⟨z.1, z.2.1⟩)] at hF
         exact ih _ (by omega) (p + 1) _ _ _ _ _ _ _ rfl (by omega) (by omega) (by omega) (by omega) (by omega) (by omega) (by omega) hR hF)
      | (rw [if_neg (fun z => by have z1_ := z.2.2; omega)] at hF
         exact ih _ (by omega) (p + 1) _ _ _ _ _ _ _ rfl (by omega) (by omega) (by omega) (by omega) (by omega) (by omega) (by omega) hR2 hF)
theorem zz_S {K : Int → Int} {lc fo rn rl rp rl2 rp2 : Int} {rs rm rd rm2 rd2 tm : Int → Int} (h : RI K rn rl2 rp2 rs rm2 rd2) (hS : SI K lc fo rn rl rp rs rm rd tm) : SI K lc fo rn rl2 rp2 rs rm2 rd2 tm := ⟨h, hS.2⟩
theorem lp_hid4 {g : Bool} {d : Nat} {Q : List xM → Option Value → Prop} {pq0 pq1 pq2 pq3 pq4 pq5 pq6 pq7 pq8 pq9 lc fo rn rl rp td br yn yl yp : Int} {xk sq oq rs rm rd ro tm sk wd ys ym yd yo : Int → Int} {lx : Nat → Option Nat} {pr be : Int → Int → Int} {ts : List TD} {K : Int → Int} (hS : SI K lc fo rn rl rp rs rm rd tm) (hX : LX K lx ts) (hTL : ∀ s p, 0 ≤ s → s ≤ 11 → 0 ≤ p → p ≤ 20 → 0 ≤ tl K 1 s p 1 ∧ tl K 1 s p 1 ≤ 99) {people f_ l_ : Int} (hk7 : R32 pq7) (hfl : 0 ≤ f_ ∧ f_ ≤ rn ∧ -1 ≤ l_ ∧ l_ < rn ∧ (l_ = -1 ∨ f_ ≤ l_)) (hno : l_ = -1 → ∀ rl rp rm rd ro, RI K rn rl rp rs rm rd → Q (W_PX pq0 pq1 pq2 pq3 pq4 pq5 pq6 pq7 pq8 pq9 lc fo rn rl rp td br yn yl yp xk sq oq rs rm rd ro tm sk wd ys ym yd yo lx pr be ts) (some (.int (ii 0)))) (hQ : ¬ l_ = -1 → ∀ td br sk wd pr rl rp rm rd ro pq6 pq7_ pq8_ pq9_, (∀ s q, 0 ≤ s → s < 6 → 0 ≤ q → q ≤ rn → pr s q = pB K s q) → RI K rn rl rp rs rm rd → hc1 K pr l_ (f_ + 1 - 0).toNat 0 (100000000, pq7, pq8, pq9) = (pq6, pq7_, pq8_, pq9_) → (pq6 < 100000000 → Q (W_PX pq0 pq1 pq2 pq3 pq4 pq5 pq6 pq7_ pq8_ pq9_ lc fo rn rl rp td br yn yl yp xk sq oq rs rm rd ro tm sk wd ys ym yd yo lx pr be ts) (some (.int (ii 1)))) ∧ (¬ pq6 < 100000000 → Q (W_PX pq0 pq1 pq2 pq3 pq4 pq5 pq6 pq7_ pq8_ pq9_ lc fo rn rl rp td br yn yl yp xk sq oq rs rm rd ro tm sk wd ys ym yd yo lx pr be ts) (some (.int (ii 0)))))  : ∀ (nn : Nat) (zz : Int), (zz).toNat = nn → SJ g m_Pap_hides (d + 5) 68 [some (.ref 0), some (.ref 7), some (.int (ii people)), some (.ref 8), some (.int (ii (f_))), some (.int (ii (l_))), none, none] [] (W_PX pq0 pq1 pq2 pq3 pq4 pq5 pq6 pq7 pq8 pq9 lc fo rn rl rp td br yn yl yp xk sq oq rs rm rd ro tm sk wd ys ym yd yo lx pr be ts) 0 0 Q := by
  intro nn
  induction nn using Nat.strongRecOn with
  | ind nn ih =>
  intro zz hn 
  obtain ⟨hR, hKR, htm0, htm1, htm2, hlc, hfo⟩ := id hS
  obtain ⟨hrn, ⟨hn0, hn1⟩, hrs, hrp, hpu⟩ := id hR
  obtain ⟨⟨kn0, kn1⟩, kns, ⟨kp0, kp1⟩, ⟨kd0, kd1⟩, ⟨km0, km1⟩, ⟨kt0, kt1⟩, ⟨kf0, kf1⟩⟩ := id hKR
  refine j_iload d_Pap_hides_68 rfl ?_
  refine z_iconst d_Pap_hides_70 ?_
  refine z_icmp_ne (t := 76) d_Pap_hides_71 (by decide) (by first | omega | exact hw _ | exact hx _ _ | assumption) (by first | omega | exact hw _ | exact hx _ _ | assumption) (fun h71 => ?_) (fun h71 => ?_)
  · refine j_aload_n d_Pap_hides_76 rfl ?_
    refine j_aload_n d_Pap_hides_77 rfl ?_
    refine j_aload_n d_Pap_hides_78 rfl ?_
    refine j_aload_n d_Pap_hides_79 rfl ?_
    refine gf_PX_7_4 f_Pap_91 d_Pap_hides_80 ?_
    refine v_call1 d_Pap_hides_83 c_Pap_94 rfl ⟨_, rfl, rfl⟩ (Nat.le_of_ble_eq_true rfl) (t_PX_lawOf2 hS hX (fun hLV => ?_) (fun aw hLV => ?_))
    · refine v_call2 d_Pap_hides_86 c_Pap_101 rfl ⟨_, rfl, rfl⟩ (Nat.le_of_ble_eq_true rfl) (t_Pap_priceAllN hrn htm0 htm2 hLV (by omega) (by omega) (fun td br sk wd pr hpr => ?_))
      refine j_aload_n d_Pap_hides_89 rfl ?_
      refine z_ldc (w := 100000000) d_Pap_hides_90 k_Pap_86 (by decide) ?_
      refine pf_PX_0_6 f_Pap_30 d_Pap_hides_92 ?_
      refine z_iconst d_Pap_hides_95 ?_
      refine j_istore d_Pap_hides_96 (by decide) ?_
      show SJ _ _ _ _ [_, _, _, _, _, _, _, _] _ _ _ _ _
      refine SJ.mask [true, true, false, true, true, true, true, true] ?_
      show SJ _ _ _ _ [_, _, none, _, _, _, _, none] _ _ _ _ _
      exact lp_hid2 (x0 := (100000000, pq7, pq8, pq9)) hrn (by omega) (by omega) (fun s p s0 s1 p0 p1 => by rw [hpr s p s0 s1 p0 p1]; exact pB_R hTL s0 s1 p0 (by omega)) (by omega) (by omega) (by omega) (by omega) (by omega) (fun rl rp rm rd ro y6 y7 y8 y9 hR2 hy2 hy => hQ (by omega) _ _ _ _ _ _ _ _ _ _ y6 y7 y8 y9 hpr hR2 hy) _ 0 _ _ _ _ _ _ _ _ _ rfl (by omega) (by omega) ⟨(by decide : (0 : Int) ≤ 100000000), (by decide : (100000000 : Int) ≤ 100000000), hk7⟩ hR rfl
    · refine v_call2 d_Pap_hides_86 c_Pap_101 rfl ⟨_, rfl, rfl⟩ (Nat.le_of_ble_eq_true rfl) (t_Pap_priceAllR hrn htm0 htm2 hLV (by omega) (by omega) (fun td br sk wd pr hpr => ?_))
      refine j_aload_n d_Pap_hides_89 rfl ?_
      refine z_ldc (w := 100000000) d_Pap_hides_90 k_Pap_86 (by decide) ?_
      refine pf_PX_0_6 f_Pap_30 d_Pap_hides_92 ?_
      refine z_iconst d_Pap_hides_95 ?_
      refine j_istore d_Pap_hides_96 (by decide) ?_
      show SJ _ _ _ _ [_, _, _, _, _, _, _, _] _ _ _ _ _
      refine SJ.mask [true, true, false, true, true, true, true, true] ?_
      show SJ _ _ _ _ [_, _, none, _, _, _, _, none] _ _ _ _ _
      exact lp_hid2 (x0 := (100000000, pq7, pq8, pq9)) hrn (by omega) (by omega) (fun s p s0 s1 p0 p1 => by rw [hpr s p s0 s1 p0 p1]; exact pB_R hTL s0 s1 p0 (by omega)) (by omega) (by omega) (by omega) (by omega) (by omega) (fun rl rp rm rd ro y6 y7 y8 y9 hR2 hy2 hy => hQ (by omega) _ _ _ _ _ _ _ _ _ _ y6 y7 y8 y9 hpr hR2 hy) _ 0 _ _ _ _ _ _ _ _ _ rfl (by omega) (by omega) ⟨(by decide : (0 : Int) ≤ 100000000), (by decide : (100000000 : Int) ≤ 100000000), hk7⟩ hR rfl
  · refine z_iconst d_Pap_hides_74 ?_
    exact z_zreturn rfl (Or.inl rfl) d_Pap_hides_75 (hno (by omega) _ _ _ _ _ hR)
theorem t_Pap_hides {g : Bool} {d : Nat} {Q : List xM → Option Value → Prop} {pq0 pq1 pq2 pq3 pq4 pq5 pq6 pq7 pq8 pq9 lc fo rn rl rp td br yn yl yp : Int} {xk sq oq rs rm rd ro tm sk wd ys ym yd yo : Int → Int} {lx : Nat → Option Nat} {pr be : Int → Int → Int} {ts : List TD} {K : Int → Int} (hS : SI K lc fo rn rl rp rs rm rd tm) (hX : LX K lx ts) (hTL : ∀ s p, 0 ≤ s → s ≤ 11 → 0 ≤ p → p ≤ 20 → 0 ≤ tl K 1 s p 1 ∧ tl K 1 s p 1 ≤ 99) {people f_ l_ : Int} (hk7 : R32 pq7) (hF : flF K people (K 0 - 0).toNat 0 (K 0, -1) = (f_, l_)) (hno : l_ = -1 → ∀ rl rp rm rd ro, RI K rn rl rp rs rm rd → Q (W_PX pq0 pq1 pq2 pq3 pq4 pq5 pq6 pq7 pq8 pq9 lc fo rn rl rp td br yn yl yp xk sq oq rs rm rd ro tm sk wd ys ym yd yo lx pr be ts) (some (.int (ii 0)))) (hQ : ¬ l_ = -1 → ∀ td br sk wd pr rl rp rm rd ro pq6 pq7_ pq8_ pq9_, (∀ s q, 0 ≤ s → s < 6 → 0 ≤ q → q ≤ rn → pr s q = pB K s q) → RI K rn rl rp rs rm rd → hc1 K pr l_ (f_ + 1 - 0).toNat 0 (100000000, pq7, pq8, pq9) = (pq6, pq7_, pq8_, pq9_) → (pq6 < 100000000 → Q (W_PX pq0 pq1 pq2 pq3 pq4 pq5 pq6 pq7_ pq8_ pq9_ lc fo rn rl rp td br yn yl yp xk sq oq rs rm rd ro tm sk wd ys ym yd yo lx pr be ts) (some (.int (ii 1)))) ∧ (¬ pq6 < 100000000 → Q (W_PX pq0 pq1 pq2 pq3 pq4 pq5 pq6 pq7_ pq8_ pq9_ lc fo rn rl rp td br yn yl yp xk sq oq rs rm rd ro tm sk wd ys ym yd yo lx pr be ts) (some (.int (ii 0)))))  : CT g m_Pap_hides (d + 5) [.ref 0, .ref 7, .int (ii people)] (W_PX pq0 pq1 pq2 pq3 pq4 pq5 pq6 pq7 pq8 pq9 lc fo rn rl rp td br yn yl yp xk sq oq rs rm rd ro tm sk wd ys ym yd yo lx pr be ts) 0 0 Q := by
  refine CT.of (by decide) (Nat.le_of_ble_eq_true rfl) ?_
  show SJ _ _ _ _ [some (.ref 0), some (.ref 7), some (.int (ii people)), none, none, none, none, none] [] _ _ _ _
  obtain ⟨hR, hKR, htm0, htm1, htm2, hlc, hfo⟩ := id hS
  obtain ⟨hrn, ⟨hn0, hn1⟩, hrs, hrp, hpu⟩ := id hR
  obtain ⟨⟨kn0, kn1⟩, kns, ⟨kp0, kp1⟩, ⟨kd0, kd1⟩, ⟨km0, km1⟩, ⟨kt0, kt1⟩, ⟨kf0, kf1⟩⟩ := id hKR
  refine j_aload_n d_Pap_hides_0 rfl ?_
  refine gf_PX_7_0 f_Pap_72 d_Pap_hides_1 ?_
  refine j_astore_n d_Pap_hides_4 (by decide) ?_
  show SJ _ _ _ _ [_, _, _, _, _, _, _, _] _ _ _ _ _
  refine j_aload_n d_Pap_hides_5 rfl ?_
  refine gf_PX_8_1 f_Pap_77 d_Pap_hides_6 ?_
  refine j_istore d_Pap_hides_9 (by decide) ?_
  show SJ _ _ _ _ [_, _, _, _, _, _, _, _] _ _ _ _ _
  refine z_iconst d_Pap_hides_11 ?_
  refine j_istore d_Pap_hides_12 (by decide) ?_
  show SJ _ _ _ _ [_, _, _, _, _, _, _, _] _ _ _ _ _
  refine z_iconst d_Pap_hides_14 ?_
  refine j_istore d_Pap_hides_15 (by decide) ?_
  show SJ _ _ _ _ [_, _, _, _, _, _, _, _] _ _ _ _ _
  rw [← hrn] at hF
  refine lp_hid3 hrn (by omega) (by omega) (fun rl2 rp2 rm2 rd2 ro2 hR2 hfl => ?_) _ 0 rn (-1) _ _ _ _ _ rfl (by omega) (by omega) (by omega) (by omega) (by omega) (by omega) (by omega) hR hF
  exact lp_hid4 (zz_S hR2 hS) hX hTL hk7 hfl hno hQ _ 0 rfl
