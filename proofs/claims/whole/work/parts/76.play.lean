/-- which end is taken first -/
def tkE (K : Int → Int) (a b : Int) : Int := if wk K a - GM K (a + 1) b < wk K (b - 1) - GM K a (b - 1) then 1 else 0
theorem lp_pla1 {g : Bool} {d : Nat} {Q : List xM → Option Value → Prop} {pq0 pq1 pq2 pq3 pq4 pq6 pq7 pq8 pq9 lc fo rn rl rp td br yn yl yp : Int} {xk sq oq rs rm rd ro tm sk wd ys ym yd yo : Int → Int} {lx : Nat → Option Nat} {pr : Int → Int → Int} {ts : List TD} {K : Int → Int} (n0_ : 0 ≤ rn) (n1_ : rn ≤ 20) (hGM : ∀ a b, 0 ≤ a → a ≤ b → b ≤ rn → -1980 ≤ GM K a b ∧ GM K a b ≤ 1980) (hsk : ∀ p, 0 ≤ p → p < rn → sq p = wk K p ∧ 0 ≤ sq p ∧ sq p ≤ 99) {to_ z5 : Int} (t0_ : 0 ≤ to_) (t1_ : to_ ≤ rn) (hkk : ∀ be pq5, (∀ i j, 0 ≤ i → i ≤ j → j < to_ + 1 → be i j = GM K i j) → (0 < to_ → pq5 = tkE K 0 to_) → (to_ = 0 → pq5 = z5) → SJ g m_Pap_play (d + 5) 126 [some (.ref 0), some (.ref 7), some (.int (ii rn)), some (.int (ii to_)), none, none, none] [] (W_PX pq0 pq1 pq2 pq3 pq4 pq5 pq6 pq7 pq8 pq9 lc fo rn rl rp td br yn yl yp xk sq oq rs rm rd ro tm sk wd ys ym yd yo lx pr be ts) 0 0 Q) : ∀ (nn : Nat) (q : Int) (be : Int → Int → Int) (pq5 : Int), (q + 1).toNat = nn → -1 ≤ q → q < to_ → (∀ i j, 0 ≤ i → i ≤ j → j < to_ → be i j = GM K i j) → (∀ i, q < i → i ≤ to_ → be i to_ = GM K i to_) → (q < to_ - 1 → pq5 = tkE K (q + 1) to_) → (q = to_ - 1 → pq5 = z5) → SJ g m_Pap_play (d + 5) 40 [some (.ref 0), some (.ref 7), some (.int (ii rn)), some (.int (ii (to_))), some (.int (ii q)), none, none] [] (W_PX pq0 pq1 pq2 pq3 pq4 pq5 pq6 pq7 pq8 pq9 lc fo rn rl rp td br yn yl yp xk sq oq rs rm rd ro tm sk wd ys ym yd yo lx pr be ts) 0 0 Q := by
  intro nn
  induction nn using Nat.strongRecOn with
  | ind nn ih =>
  intro q be pq5 hn q0 q1 hA hB h5 h6
  refine j_iload d_Pap_play_40 rfl ?_
  refine z_if_lt (t := 126) d_Pap_play_42 (by decide) (by first | omega | exact hw _ | exact hx _ _ | assumption) (fun h42 => ?_) (fun h42 => ?_)
  · refine SJ.mask [true, true, true, true, false, true, true] ?_
    show SJ _ _ _ _ [_, _, _, _, none, none, none] _ _ _ _ _
    exact hkk be pq5 (fun i j i0 ij jt => by
      by_cases e : j = to_
      · rw [e]; exact hB i (by omega) (by omega)
      · exact hA i j i0 ij (by omega)) (fun hz => by rw [h5 (by omega), show q + 1 = 0 by omega]) (fun hz => h6 (by omega))
  · have e1 := hsk q (by omega) (by omega)
    have e2 := hsk (to_ - 1) (by omega) (by omega)
    have b1 := hB (q + 1) (by omega) (by omega)
    have b2 := hA q (to_ - 1) (by omega) (by omega) (by omega)
    have r1 := hGM (q + 1) to_ (by omega) (by omega) (by omega)
    have r2 := hGM q (to_ - 1) (by omega) (by omega) (by omega)
    refine j_aload_n d_Pap_play_45 rfl ?_
    refine gf_PX_0_15 f_Pap_61 d_Pap_play_46 ?_
    refine j_iload d_Pap_play_49 rfl ?_
    refine al_PX_2 d_Pap_play_51 (by omega) (by omega) ?_
    refine j_aload_n d_Pap_play_52 rfl ?_
    refine gf_PX_0_14 f_Pap_58 d_Pap_play_53 ?_
    refine j_iload d_Pap_play_56 rfl ?_
    refine z_iconst d_Pap_play_58 ?_
    refine z_iadd d_Pap_play_59 ?_
    refine z_aald d_Pap_play_60 rfl (by decide) (by omega) (by omega) (by omega) ?_
    refine j_iload_n d_Pap_play_61 rfl ?_
    refine z_iald d_Pap_play_62 (PX_be (by omega) (by omega)) (by omega) (by omega) (by omega) ?_
    refine z_isub d_Pap_play_63 ?_
    refine j_istore d_Pap_play_64 (by decide) ?_
    show SJ _ _ _ _ [_, _, _, _, _, _, _] _ _ _ _ _
    refine j_aload_n d_Pap_play_66 rfl ?_
    refine gf_PX_0_15 f_Pap_61 d_Pap_play_67 ?_
    refine j_iload_n d_Pap_play_70 rfl ?_
    refine z_iconst d_Pap_play_71 ?_
    refine z_isub d_Pap_play_72 ?_
    refine al_PX_2 d_Pap_play_73 (by omega) (by omega) ?_
    refine j_aload_n d_Pap_play_74 rfl ?_
    refine gf_PX_0_14 f_Pap_58 d_Pap_play_75 ?_
    refine j_iload d_Pap_play_78 rfl ?_
    refine z_aald d_Pap_play_80 rfl (by decide) (by omega) (by omega) (by omega) ?_
    refine j_iload_n d_Pap_play_81 rfl ?_
    refine z_iconst d_Pap_play_82 ?_
    refine z_isub d_Pap_play_83 ?_
    refine z_iald d_Pap_play_84 (PX_be (by omega) (by omega)) (by omega) (by omega) (by omega) ?_
    refine z_isub d_Pap_play_85 ?_
    refine j_istore d_Pap_play_86 (by decide) ?_
    show SJ _ _ _ _ [_, _, _, _, _, _, _] _ _ _ _ _
    refine j_aload_n d_Pap_play_88 rfl ?_
    refine gf_PX_0_14 f_Pap_58 d_Pap_play_89 ?_
    refine j_iload d_Pap_play_92 rfl ?_
    refine z_aald d_Pap_play_94 rfl (by decide) (by omega) (by omega) (by omega) ?_
    refine j_iload_n d_Pap_play_95 rfl ?_
    refine j_iload d_Pap_play_96 rfl ?_
    refine j_iload d_Pap_play_98 rfl ?_
    refine z_max d_Pap_play_100 mm_Pap_157 (Nat.le_of_ble_eq_true rfl) (by first | omega | exact hw _ | exact hx _ _ | assumption) (by first | omega | exact hw _ | exact hx _ _ | assumption) ?_
    rw [show max (sq q - be (q + 1) to_) (sq (to_ - 1) - be q (to_ - 1)) = GM K q to_ by rw [GM_eq (show q < to_ by omega), e1.1, e2.1, b1, b2]]
    refine z_iast d_Pap_play_103 (PX_be (by omega) (by omega)) (by omega) (by omega) (by omega) ?_
    rw [PX_bes (by omega) (by omega)]
    refine j_aload_n d_Pap_play_104 rfl ?_
    refine j_iload d_Pap_play_105 rfl ?_
    refine j_iload d_Pap_play_107 rfl ?_
    refine z_icmp_le (t := 116) d_Pap_play_109 (by decide) (by first | omega | exact hw _ | exact hx _ _ | assumption) (by first | omega | exact hw _ | exact hx _ _ | assumption) (fun h109 => ?_) (fun h109 => ?_)
    · refine z_iconst d_Pap_play_116 ?_
      refine pf_PX_0_5 f_Pap_27 d_Pap_play_117 ?_
      refine z_iinc d_Pap_play_120 rfl (by decide) ?_
      show SJ _ _ _ _ [_, _, _, _, _, _, _] _ _ _ _ _
      refine j_goto (t := 40) d_Pap_play_123 (by decide) ?_
      refine SJ.mask [true, true, true, true, true, false, false] ?_
      show SJ _ _ _ _ [_, _, _, _, _, none, none] _ _ _ _ _
      refine ih _ (by omega) (q + -1) _ _ rfl (by omega) (by omega) (fun i j i0 ij jt => ?_) (fun i iq it => ?_) (fun hz => ?_) (fun hz => by omega)
      · by_cases e : i = q
        · rw [e, upR_eq, up_ne (by omega), ← e]; exact hA i j i0 ij jt
        · rw [upR_ne e]; exact hA i j i0 ij jt
      · by_cases e : i = q
        · rw [e, upR_eq, up_eq]
        · rw [upR_ne e]; exact hB i (by omega) it
      · rw [show q + -1 + 1 = q by omega]
        unfold tkE
        first
        | rw [if_pos (by omega)]
        | rw [if_neg (by omega)]
    · refine z_iconst d_Pap_play_112 ?_
      refine j_goto (t := 117) d_Pap_play_113 (by decide) ?_
      refine pf_PX_0_5 f_Pap_27 d_Pap_play_117 ?_
      refine z_iinc d_Pap_play_120 rfl (by decide) ?_
      show SJ _ _ _ _ [_, _, _, _, _, _, _] _ _ _ _ _
      refine j_goto (t := 40) d_Pap_play_123 (by decide) ?_
      refine SJ.mask [true, true, true, true, true, false, false] ?_
      show SJ _ _ _ _ [_, _, _, _, _, none, none] _ _ _ _ _
      refine ih _ (by omega) (q + -1) _ _ rfl (by omega) (by omega) (fun i j i0 ij jt => ?_) (fun i iq it => ?_) (fun hz => ?_) (fun hz => by omega)
      · by_cases e : i = q
        · rw [e, upR_eq, up_ne (by omega), ← e]; exact hA i j i0 ij jt
        · rw [upR_ne e]; exact hA i j i0 ij jt
      · by_cases e : i = q
        · rw [e, upR_eq, up_eq]
        · rw [upR_ne e]; exact hB i (by omega) it
      · rw [show q + -1 + 1 = q by omega]
        unfold tkE
        first
        | rw [if_pos (by omega)]
        | rw [if_neg (by omega)]
theorem lp_pla2 {g : Bool} {d : Nat} {Q : List xM → Option Value → Prop} {pq0 pq1 pq2 pq3 pq4 pq6 pq7 pq8 pq9 lc fo rn rl rp td br yn yl yp : Int} {xk sq oq rs rm rd ro tm sk wd ys ym yd yo : Int → Int} {lx : Nat → Option Nat} {pr : Int → Int → Int} {ts : List TD} {K : Int → Int} (n0_ : 0 ≤ rn) (n1_ : rn ≤ 20) (hGM : ∀ a b, 0 ≤ a → a ≤ b → b ≤ rn → -1980 ≤ GM K a b ∧ GM K a b ≤ 1980) (hsk : ∀ p, 0 ≤ p → p < rn → sq p = wk K p ∧ 0 ≤ sq p ∧ sq p ≤ 99) (hQ : ∀ be, Q (W_PX pq0 pq1 pq2 pq3 (GM K 0 rn) (if rn = 0 then 0 else tkE K 0 rn) pq6 pq7 pq8 pq9 lc fo rn rl rp td br yn yl yp xk sq oq rs rm rd ro tm sk wd ys ym yd yo lx pr be ts) none)  : ∀ (nn : Nat) (to_ : Int) (be : Int → Int → Int) (pq5 : Int), (rn + 1 - to_).toNat = nn → 0 ≤ to_ → to_ ≤ rn + 1 → (∀ i j, 0 ≤ i → i ≤ j → j < to_ → be i j = GM K i j) → (to_ ≤ 1 → pq5 = 0) → (2 ≤ to_ → pq5 = tkE K 0 (to_ - 1)) → SJ g m_Pap_play (d + 5) 21 [some (.ref 0), some (.ref 7), some (.int (ii rn)), some (.int (ii (to_))), none, none, none] [] (W_PX pq0 pq1 pq2 pq3 pq4 pq5 pq6 pq7 pq8 pq9 lc fo rn rl rp td br yn yl yp xk sq oq rs rm rd ro tm sk wd ys ym yd yo lx pr be ts) 0 0 Q := by
  intro nn
  induction nn using Nat.strongRecOn with
  | ind nn ih =>
  intro to_ be pq5 hn t0_ t1_ hA g0 g1
  refine j_iload_n d_Pap_play_21 rfl ?_
  refine j_iload_n d_Pap_play_22 rfl ?_
  refine z_icmp_gt (t := 132) d_Pap_play_23 (by decide) (by first | omega | exact hw _ | exact hx _ _ | assumption) (by first | omega | exact hw _ | exact hx _ _ | assumption) (fun h23 => ?_) (fun h23 => ?_)
  · refine j_aload_n d_Pap_play_132 rfl ?_
    refine j_aload_n d_Pap_play_133 rfl ?_
    refine gf_PX_0_14 f_Pap_58 d_Pap_play_134 ?_
    refine z_iconst d_Pap_play_137 ?_
    refine z_aald d_Pap_play_138 rfl (by decide) (by omega) (by omega) (by omega) ?_
    refine j_iload_n d_Pap_play_139 rfl ?_
    refine z_iald d_Pap_play_140 (PX_be (by omega) (by omega)) (by omega) (by omega) (by omega) ?_
    refine pf_PX_0_4 f_Pap_24 d_Pap_play_141 ?_
    have e5 : pq5 = (if rn = 0 then 0 else tkE K 0 rn) := by
      by_cases z : rn = 0
      · rw [if_pos z]; exact g0 (by omega)
      · rw [if_neg z, g1 (by omega), show to_ - 1 = rn by omega]
    rw [hA 0 rn (by omega) n0_ (by omega), e5]
    exact j_return rfl d_Pap_play_144 (hQ be)
  · refine j_aload_n d_Pap_play_26 rfl ?_
    refine gf_PX_0_14 f_Pap_58 d_Pap_play_27 ?_
    refine j_iload_n d_Pap_play_30 rfl ?_
    refine z_aald d_Pap_play_31 rfl (by decide) (by omega) (by omega) (by omega) ?_
    refine j_iload_n d_Pap_play_32 rfl ?_
    refine z_iconst d_Pap_play_33 ?_
    refine z_iast d_Pap_play_34 (PX_be (by omega) (by omega)) (by omega) (by omega) (by omega) ?_
    rw [PX_bes (by omega) (by omega)]
    refine j_iload_n d_Pap_play_35 rfl ?_
    refine z_iconst d_Pap_play_36 ?_
    refine z_isub d_Pap_play_37 ?_
    refine j_istore d_Pap_play_38 (by decide) ?_
    show SJ _ _ _ _ [_, _, _, _, _, _, _] _ _ _ _ _
    refine lp_pla1 (z5 := pq5) n0_ n1_ hGM hsk t0_ (by omega) (fun be pq6_ hb hz1 hz2 => ?_) _ (to_ - 1) _ _ rfl (by omega) (by omega) (fun i j i0 ij jt => by rw [upR_ne (by omega)]; exact hA i j i0 ij jt) (fun i iq it => by
      have e : i = to_ := by omega
      rw [e, upR_eq, up_eq, GM_self]) (fun hz => by omega) (fun hz => rfl)
    refine z_iinc d_Pap_play_126 rfl (by decide) ?_
    show SJ _ _ _ _ [_, _, _, _, _, _, _] _ _ _ _ _
    refine j_goto (t := 21) d_Pap_play_129 (by decide) ?_
    exact ih _ (by omega) (to_ + 1) _ _ rfl (by omega) (by omega) hb (fun hz => by rw [hz2 (by omega)]; exact g0 (by omega)) (fun hz => by rw [hz1 (by omega), show to_ + 1 - 1 = to_ by omega])
theorem t_Pap_play {g : Bool} {d : Nat} {Q : List xM → Option Value → Prop} {pq0 pq1 pq2 pq3 pq4 pq5 pq6 pq7 pq8 pq9 lc fo rn rl rp td br yn yl yp : Int} {xk sq oq rs rm rd ro tm sk wd ys ym yd yo : Int → Int} {lx : Nat → Option Nat} {pr be : Int → Int → Int} {ts : List TD} {K : Int → Int} (hS : SI K lc fo rn rl rp rs rm rd tm) (hX : LX K lx ts) (hGM : ∀ a b, 0 ≤ a → a ≤ b → b ≤ rn → -1980 ≤ GM K a b ∧ GM K a b ≤ 1980) (hTL : ∀ s p, 0 ≤ s → s ≤ 11 → 0 ≤ p → p ≤ 20 → 0 ≤ tl K 3 s p 1 ∧ tl K 3 s p 1 ≤ 99) (hQ : ∀ td br sk wd sq be, Q (W_PX pq0 pq1 pq2 pq3 (GM K 0 rn) (if rn = 0 then 0 else tkE K 0 rn) pq6 pq7 pq8 pq9 lc fo rn rl rp td br yn yl yp xk sq oq rs rm rd ro tm sk wd ys ym yd yo lx pr be ts) none)  : CT g m_Pap_play (d + 5) [.ref 0, .ref 7] (W_PX pq0 pq1 pq2 pq3 pq4 pq5 pq6 pq7 pq8 pq9 lc fo rn rl rp td br yn yl yp xk sq oq rs rm rd ro tm sk wd ys ym yd yo lx pr be ts) 0 0 Q := by
  refine CT.of (by decide) (Nat.le_of_ble_eq_true rfl) ?_
  show SJ _ _ _ _ [some (.ref 0), some (.ref 7), none, none, none, none, none] [] _ _ _ _
  obtain ⟨hR, hKR, htm0, htm1, htm2, hlc, hfo⟩ := id hS
  obtain ⟨hrn, ⟨hn0, hn1⟩, hrs, hrp, hpu⟩ := id hR
  obtain ⟨⟨kn0, kn1⟩, kns, ⟨kp0, kp1⟩, ⟨kd0, kd1⟩, ⟨km0, km1⟩, ⟨kt0, kt1⟩, ⟨kf0, kf1⟩⟩ := id hKR
  refine j_aload_n d_Pap_play_0 rfl ?_
  refine j_aload_n d_Pap_play_1 rfl ?_
  refine z_iconst d_Pap_play_2 ?_
  refine v_call2 d_Pap_play_3 c_Pap_135 rfl ⟨_, rfl, rfl⟩ (Nat.le_of_ble_eq_true rfl) (t_Pap_stakeAll (what := 2) hS hX (by omega) (by omega) (fun td br sk wd sq hsq => ?_))
  refine j_aload_n d_Pap_play_6 rfl ?_
  refine gf_PX_7_0 f_Pap_72 d_Pap_play_7 ?_
  refine gf_PX_8_1 f_Pap_77 d_Pap_play_10 ?_
  refine j_istore_n d_Pap_play_13 (by decide) ?_
  show SJ _ _ _ _ [_, _, _, _, _, _, _] _ _ _ _ _
  refine j_aload_n d_Pap_play_14 rfl ?_
  refine z_iconst d_Pap_play_15 ?_
  refine pf_PX_0_5 f_Pap_27 d_Pap_play_16 ?_
  refine z_iconst d_Pap_play_19 ?_
  refine j_istore_n d_Pap_play_20 (by decide) ?_
  show SJ _ _ _ _ [_, _, _, _, _, _, _] _ _ _ _ _
  refine lp_pla2 (K := K) (by omega) (by omega) hGM (fun p p0 p1 => ?_) (fun be => hQ _ _ _ _ _ be) _ 0 _ _ rfl (by omega) (by omega) (fun i j i0 ij jt => by omega) (fun _ => rfl) (fun hz => by omega)
  have h1 := hrs p p0 p1
  have h2 := hsq p p0 p1
  rw [h1.1] at h2
  have h3 := hTL (K (1 + p)) p (by omega) (by omega) p0 (by omega)
  rw [h2]
  exact ⟨rfl, h3⟩
