theorem ST_stS {K w : Int → Int} {T : Int → Int → Int} {a b : Int} (h : w a = tl K 2 (K (1 + a)) a 1) : stS K w T a b = stS K (sk K) T a b := by
  unfold stS
  rw [h]
  rfl
theorem pB_R {K : Int → Int} (hTL : ∀ s p, 0 ≤ s → s ≤ 11 → 0 ≤ p → p ≤ 20 → 0 ≤ tl K 1 s p 1 ∧ tl K 1 s p 1 ≤ 99) {s p : Int} (s0 : 0 ≤ s) (s1 : s < 6) (p0 : 0 ≤ p) (p1 : p ≤ 20) : 0 ≤ pB K s p ∧ (pB K s p ≤ 99 ∨ pB K s p = 100000000) := by
  have h := hTL s p s0 (by omega) p0 p1
  unfold pB
  split <;> omega
theorem MDb_R {K : Int → Int} {n : Int} (n1 : n ≤ 20) (hs : ∀ j, 0 ≤ j → j < n → 0 ≤ K (1 + j) ∧ K (1 + j) ≤ 11) (hTL : ∀ s p, 0 ≤ s → s ≤ 11 → 0 ≤ p → p ≤ 20 → 0 ≤ tl K 1 s p 1 ∧ tl K 1 s p 1 ≤ 99) {a b : Int} (h1 : 0 ≤ a) (h2 : a ≤ b) (h3 : b ≤ n) : 0 ≤ MDb K a b ∧ MDb K a b ≤ 100000000 :=
  mdS_R (by decide) hs (fun s p s0 s1 p0 p1 => (cB_R (pB_R hTL s0 s1 p0 (by omega))).1) _ a b (Int.self_le_toNat _) h1 h2 h3
theorem lp_mnd1N {g : Bool} {d : Nat} {Q : List xM → Option Value → Prop} {pq0 pq1 pq2 pq3 pq4 pq5 pq6 pq7 pq8 pq9 lc fo rn rl rp td br yn yl yp : Int} {xk sq oq rs rm rd ro tm sk wd ys ym yd yo : Int → Int} {lx : Nat → Option Nat} {pr : Int → Int → Int} {ts : List TD} {K : Int → Int} (n0_ : 0 ≤ rn) (n1_ : rn ≤ 20) (hLV : LV K 51 ts (.null)) (hs : ∀ j, 0 ≤ j → j < rn → rs j = K (1 + j) ∧ 0 ≤ rs j ∧ rs j ≤ 11) (hTL : ∀ s p, 0 ≤ s → s ≤ 11 → 0 ≤ p → p ≤ 20 → 0 ≤ tl K 1 s p 1 ∧ tl K 1 s p 1 ≤ 99) (hpr : ∀ s q, 0 ≤ s → s < 6 → 0 ≤ q → q ≤ rn → pr s q = pB K s q) {to_ : Int} (t0_ : 0 ≤ to_) (t1_ : to_ ≤ rn) (hkk : ∀ be, (∀ i j, 0 ≤ i → i ≤ j → j < to_ + 1 → be i j = MDb K i j) → SJ g m_Pap_mends (d + 5) 76 [some (.ref 0), some (.ref 7), some (.null), some (.int (ii rn)), some (.int (ii to_)), none] [] (W_PX pq0 pq1 pq2 pq3 pq4 pq5 pq6 pq7 pq8 pq9 lc fo rn rl rp td br yn yl yp xk sq oq rs rm rd ro tm sk wd ys ym yd yo lx pr be ts) 0 0 Q) : ∀ (nn : Nat) (q : Int) (be : Int → Int → Int), (q + 1).toNat = nn → -1 ≤ q → q < to_ → (∀ i j, 0 ≤ i → i ≤ j → j < to_ → be i j = MDb K i j) → (∀ i, q < i → i ≤ to_ → be i to_ = MDb K i to_) → SJ g m_Pap_mends (d + 5) 40 [some (.ref 0), some (.ref 7), some (.null), some (.int (ii rn)), some (.int (ii (to_))), some (.int (ii q))] [] (W_PX pq0 pq1 pq2 pq3 pq4 pq5 pq6 pq7 pq8 pq9 lc fo rn rl rp td br yn yl yp xk sq oq rs rm rd ro tm sk wd ys ym yd yo lx pr be ts) 0 0 Q := by
  intro nn
  induction nn using Nat.strongRecOn with
  | ind nn ih =>
  intro q be hn q0 q1 hA hB
  refine j_iload d_Pap_mends_40 rfl ?_
  refine z_if_lt (t := 76) d_Pap_mends_42 (by decide) (by first | omega | exact hw _ | exact hx _ _ | assumption) (fun h42 => ?_) (fun h42 => ?_)
  · refine SJ.mask [true, true, true, true, true, false] ?_
    show SJ _ _ _ _ [_, _, _, _, _, none] _ _ _ _ _
    exact hkk be (fun i j i0 ij jt => by
      by_cases e : j = to_
      · rw [e]; exact hB i (by omega) (by omega)
      · exact hA i j i0 ij (by omega))
  · have hP : ∀ s p, 0 ≤ s → s < 6 → 0 ≤ p → p ≤ rn → 0 ≤ pr s p ∧ (pr s p ≤ 99 ∨ pr s p = 100000000) := fun s p s0 s1 p0 p1 => by
      rw [hpr s p s0 s1 p0 p1]; exact pB_R hTL s0 s1 p0 (by omega)
    have hc : ∀ s p, 0 ≤ s → s < 6 → 0 ≤ p → p ≤ rn → cB pr s p = cB (pB K) s p := fun s p s0 s1 p0 p1 => by
      unfold cB; rw [hpr s p s0 s1 p0 p1]
    have hM : ∀ a b, 0 ≤ a → a ≤ b → b ≤ rn → 0 ≤ MDb K a b ∧ MDb K a b ≤ 100000000 := fun a b h1 h2 h3 => MDb_R n1_ (fun j j0 j1 => by have := hs j j0 j1; omega) hTL h1 h2 h3
    have hbq : ∀ i j, q ≤ i → i ≤ j → j ≤ to_ → (i = q → j < to_) → be i j = MDb K i j := fun i j iq ij jt hx => by
      by_cases e : j = to_
      · rw [e]; exact hB i (by omega) (by omega)
      · exact hA i j (by omega) ij (by omega)
    have hbR : ∀ i j, q ≤ i → i ≤ j → j ≤ to_ → (i = q → j < to_) → 0 ≤ be i j ∧ be i j ≤ 100000000 := fun i j iq ij jt hx => by
      rw [hbq i j iq ij jt hx]; exact hM i j (by omega) ij (by omega)
    refine j_aload_n d_Pap_mends_45 rfl ?_
    refine gf_PX_0_14 f_Pap_58 d_Pap_mends_46 ?_
    refine j_iload d_Pap_mends_49 rfl ?_
    refine z_aald d_Pap_mends_51 rfl (by decide) (by omega) (by omega) (by omega) ?_
    refine j_iload d_Pap_mends_52 rfl ?_
    refine j_aload_n d_Pap_mends_54 rfl ?_
    refine j_aload_n d_Pap_mends_55 rfl ?_
    refine gf_PX_7_0 f_Pap_72 d_Pap_mends_56 ?_
    refine gf_PX_8_0 f_Pap_98 d_Pap_mends_59 ?_
    refine j_iload d_Pap_mends_62 rfl ?_
    refine j_iload d_Pap_mends_64 rfl ?_
    refine v_call3 d_Pap_mends_66 c_Pap_105 rfl ⟨_, rfl, rfl⟩ (Nat.le_of_ble_eq_true rfl) (t_Pap_mendRun (n := rn) n1_ (by omega) (by omega) (by omega) (fun j j0 j1 => (hs j j0 j1).2) hP hbR (fun ho => moR_R (n := rn) (by omega) (by omega) (by omega) ⟨(hs q (by omega) (by omega)).2.1, ho⟩ hP hbR) ?_)
    rw [mrR_eq (K := K) (c := cB (pB K)) (T := MDb K) (n := rn) (by omega) (by omega) (by omega) hs hc hbq (hM (q + 1) to_ (by omega) (by omega) (by omega)).2, ← MDb_eq (by omega)]
    refine z_iast d_Pap_mends_69 (PX_be (by omega) (by omega)) (by omega) (by omega) (by omega) ?_
    rw [PX_bes (by omega) (by omega)]
    refine z_iinc d_Pap_mends_70 rfl (by decide) ?_
    show SJ _ _ _ _ [_, _, _, _, _, _] _ _ _ _ _
    refine j_goto (t := 40) d_Pap_mends_73 (by decide) ?_
    refine ih _ (by omega) (q + -1) _ rfl (by omega) (by omega) (fun i j i0 ij jt => ?_) (fun i iq it => ?_)
    · by_cases e : i = q
      · rw [e, upR_eq, up_ne (by omega), ← e]; exact hA i j i0 ij jt
      · rw [upR_ne e]; exact hA i j i0 ij jt
    · by_cases e : i = q
      · rw [e, upR_eq, up_eq]
      · rw [upR_ne e]; exact hB i (by omega) it
theorem lp_mnd2N {g : Bool} {d : Nat} {Q : List xM → Option Value → Prop} {pq0 pq1 pq2 pq3 pq4 pq5 pq6 pq7 pq8 pq9 lc fo rn rl rp td br yn yl yp : Int} {xk sq oq rs rm rd ro tm sk wd ys ym yd yo : Int → Int} {lx : Nat → Option Nat} {pr : Int → Int → Int} {ts : List TD} {K : Int → Int} (n0_ : 0 ≤ rn) (n1_ : rn ≤ 20) (hLV : LV K 51 ts (.null)) (hs : ∀ j, 0 ≤ j → j < rn → rs j = K (1 + j) ∧ 0 ≤ rs j ∧ rs j ≤ 11) (hTL : ∀ s p, 0 ≤ s → s ≤ 11 → 0 ≤ p → p ≤ 20 → 0 ≤ tl K 1 s p 1 ∧ tl K 1 s p 1 ≤ 99) (hpr : ∀ s q, 0 ≤ s → s < 6 → 0 ≤ q → q ≤ rn → pr s q = pB K s q) (ht : MDb K 0 rn < 100000000 → ∀ be, Q (W_PX ((MDb K 0 rn).tdiv 100) ((MDb K 0 rn).tmod 100) pq2 pq3 pq4 pq5 pq6 pq7 pq8 pq9 lc fo rn rl rp td br yn yl yp xk sq oq rs rm rd ro tm sk wd ys ym yd yo lx pr be ts) (some (.int (ii 1)))) (hf : ¬ MDb K 0 rn < 100000000 → ∀ be, Q (W_PX ((MDb K 0 rn).tdiv 100) ((MDb K 0 rn).tmod 100) pq2 pq3 pq4 pq5 pq6 pq7 pq8 pq9 lc fo rn rl rp td br yn yl yp xk sq oq rs rm rd ro tm sk wd ys ym yd yo lx pr be ts) (some (.int (ii 0))))  : ∀ (nn : Nat) (to_ : Int) (be : Int → Int → Int), (rn + 1 - to_).toNat = nn → 0 ≤ to_ → to_ ≤ rn + 1 → (∀ i j, 0 ≤ i → i ≤ j → j < to_ → be i j = MDb K i j) → SJ g m_Pap_mends (d + 5) 17 [some (.ref 0), some (.ref 7), some (.null), some (.int (ii rn)), some (.int (ii (to_))), none] [] (W_PX pq0 pq1 pq2 pq3 pq4 pq5 pq6 pq7 pq8 pq9 lc fo rn rl rp td br yn yl yp xk sq oq rs rm rd ro tm sk wd ys ym yd yo lx pr be ts) 0 0 Q := by
  intro nn
  induction nn using Nat.strongRecOn with
  | ind nn ih =>
  intro to_ be hn t0_ t1_ hA
  refine j_iload d_Pap_mends_17 rfl ?_
  refine j_iload_n d_Pap_mends_19 rfl ?_
  refine z_icmp_gt (t := 82) d_Pap_mends_20 (by decide) (by first | omega | exact hw _ | exact hx _ _ | assumption) (by first | omega | exact hw _ | exact hx _ _ | assumption) (fun h20 => ?_) (fun h20 => ?_)
  · have hP : ∀ s p, 0 ≤ s → s < 6 → 0 ≤ p → p ≤ rn → 0 ≤ pr s p ∧ (pr s p ≤ 99 ∨ pr s p = 100000000) := fun s p s0 s1 p0 p1 => by
      rw [hpr s p s0 s1 p0 p1]; exact pB_R hTL s0 s1 p0 (by omega)
    have hc : ∀ s p, 0 ≤ s → s < 6 → 0 ≤ p → p ≤ rn → cB pr s p = cB (pB K) s p := fun s p s0 s1 p0 p1 => by
      unfold cB; rw [hpr s p s0 s1 p0 p1]
    have hM : ∀ a b, 0 ≤ a → a ≤ b → b ≤ rn → 0 ≤ MDb K a b ∧ MDb K a b ≤ 100000000 := fun a b h1 h2 h3 => MDb_R n1_ (fun j j0 j1 => by have := hs j j0 j1; omega) hTL h1 h2 h3
    have hm := hA 0 rn (by omega) n0_ (by omega)
    have hmr := hM 0 rn (by omega) n0_ (by omega)
    rw [← hm] at hmr
    refine j_aload_n d_Pap_mends_82 rfl ?_
    refine j_aload_n d_Pap_mends_83 rfl ?_
    refine gf_PX_0_14 f_Pap_58 d_Pap_mends_84 ?_
    refine z_iconst d_Pap_mends_87 ?_
    refine z_aald d_Pap_mends_88 rfl (by decide) (by omega) (by omega) (by omega) ?_
    refine j_iload_n d_Pap_mends_89 rfl ?_
    refine z_iald d_Pap_mends_90 (PX_be (by omega) (by omega)) (by omega) (by omega) (by omega) ?_
    refine z_bipush d_Pap_mends_91 (by decide) ?_
    refine z_idiv d_Pap_mends_93 (by first | omega | exact hw _ | exact hx _ _ | assumption) (by first | omega | exact hw _ | exact hx _ _ | assumption) (by decide) ?_
    refine pf_PX_0_0 f_Pap_9 d_Pap_mends_94 ?_
    refine j_aload_n d_Pap_mends_97 rfl ?_
    refine j_aload_n d_Pap_mends_98 rfl ?_
    refine gf_PX_0_14 f_Pap_58 d_Pap_mends_99 ?_
    refine z_iconst d_Pap_mends_102 ?_
    refine z_aald d_Pap_mends_103 rfl (by decide) (by omega) (by omega) (by omega) ?_
    refine j_iload_n d_Pap_mends_104 rfl ?_
    refine z_iald d_Pap_mends_105 (PX_be (by omega) (by omega)) (by omega) (by omega) (by omega) ?_
    refine z_bipush d_Pap_mends_106 (by decide) ?_
    refine z_irem d_Pap_mends_108 (by first | omega | exact hw _ | exact hx _ _ | assumption) (by first | omega | exact hw _ | exact hx _ _ | assumption) (by decide) ?_
    refine pf_PX_0_1 f_Pap_15 d_Pap_mends_109 ?_
    refine j_aload_n d_Pap_mends_112 rfl ?_
    refine gf_PX_0_14 f_Pap_58 d_Pap_mends_113 ?_
    refine z_iconst d_Pap_mends_116 ?_
    refine z_aald d_Pap_mends_117 rfl (by decide) (by omega) (by omega) (by omega) ?_
    refine j_iload_n d_Pap_mends_118 rfl ?_
    refine z_iald d_Pap_mends_119 (PX_be (by omega) (by omega)) (by omega) (by omega) (by omega) ?_
    refine z_ldc (w := 100000000) d_Pap_mends_120 k_Pap_86 (by decide) ?_
    refine z_icmp_ge (t := 129) d_Pap_mends_122 (by decide) (by first | omega | exact hw _ | exact hx _ _ | assumption) (by first | omega | exact hw _ | exact hx _ _ | assumption) (fun h122 => ?_) (fun h122 => ?_)
    · refine z_iconst d_Pap_mends_129 ?_
      rw [hm]
      first
      | exact z_zreturn rfl (Or.inr rfl) d_Pap_mends_130 (ht (by omega) be)
      | exact z_zreturn rfl (Or.inl rfl) d_Pap_mends_130 (hf (by omega) be)
    · refine z_iconst d_Pap_mends_125 ?_
      refine j_goto (t := 130) d_Pap_mends_126 (by decide) ?_
      rw [hm]
      first
      | exact z_zreturn rfl (Or.inr rfl) d_Pap_mends_130 (ht (by omega) be)
      | exact z_zreturn rfl (Or.inl rfl) d_Pap_mends_130 (hf (by omega) be)
  · refine j_aload_n d_Pap_mends_23 rfl ?_
    refine gf_PX_0_14 f_Pap_58 d_Pap_mends_24 ?_
    refine j_iload d_Pap_mends_27 rfl ?_
    refine z_aald d_Pap_mends_29 rfl (by decide) (by omega) (by omega) (by omega) ?_
    refine j_iload d_Pap_mends_30 rfl ?_
    refine z_iconst d_Pap_mends_32 ?_
    refine z_iast d_Pap_mends_33 (PX_be (by omega) (by omega)) (by omega) (by omega) (by omega) ?_
    rw [PX_bes (by omega) (by omega)]
    refine j_iload d_Pap_mends_34 rfl ?_
    refine z_iconst d_Pap_mends_36 ?_
    refine z_isub d_Pap_mends_37 ?_
    refine j_istore d_Pap_mends_38 (by decide) ?_
    show SJ _ _ _ _ [_, _, _, _, _, _] _ _ _ _ _
    refine lp_mnd1N n0_ n1_ hLV hs hTL hpr t0_ (by omega) (fun be hb => ?_) _ (to_ - 1) _ rfl (by omega) (by omega) (fun i j i0 ij jt => by rw [upR_ne (by omega)]; exact hA i j i0 ij jt) (fun i iq it => by
      have e : i = to_ := by omega
      rw [e, upR_eq, up_eq, MDb_self])
    refine z_iinc d_Pap_mends_76 rfl (by decide) ?_
    show SJ _ _ _ _ [_, _, _, _, _, _] _ _ _ _ _
    refine j_goto (t := 17) d_Pap_mends_79 (by decide) ?_
    exact ih _ (by omega) (to_ + 1) _ rfl (by omega) (by omega) hb
theorem t_Pap_mendsN {g : Bool} {d : Nat} {Q : List xM → Option Value → Prop} {pq0 pq1 pq2 pq3 pq4 pq5 pq6 pq7 pq8 pq9 lc fo rn rl rp td br yn yl yp : Int} {xk sq oq rs rm rd ro tm sk wd ys ym yd yo : Int → Int} {lx : Nat → Option Nat} {pr be : Int → Int → Int} {ts : List TD} {K : Int → Int} (hn_ : rn = K 0) (ht0 : tm 0 = K 21) (ht2 : tm 2 = K 23) (hLV : LV K 51 ts (.null)) (n0_ : 0 ≤ rn) (n1_ : rn ≤ 20) (hs : ∀ j, 0 ≤ j → j < rn → rs j = K (1 + j) ∧ 0 ≤ rs j ∧ rs j ≤ 11) (hTL : ∀ s p, 0 ≤ s → s ≤ 11 → 0 ≤ p → p ≤ 20 → 0 ≤ tl K 1 s p 1 ∧ tl K 1 s p 1 ≤ 99) (ht : MDb K 0 rn < 100000000 → ∀ td br sk wd pr be, Q (W_PX ((MDb K 0 rn).tdiv 100) ((MDb K 0 rn).tmod 100) pq2 pq3 pq4 pq5 pq6 pq7 pq8 pq9 lc fo rn rl rp td br yn yl yp xk sq oq rs rm rd ro tm sk wd ys ym yd yo lx pr be ts) (some (.int (ii 1)))) (hf : ¬ MDb K 0 rn < 100000000 → ∀ td br sk wd pr be, Q (W_PX ((MDb K 0 rn).tdiv 100) ((MDb K 0 rn).tmod 100) pq2 pq3 pq4 pq5 pq6 pq7 pq8 pq9 lc fo rn rl rp td br yn yl yp xk sq oq rs rm rd ro tm sk wd ys ym yd yo lx pr be ts) (some (.int (ii 0))))  : CT g m_Pap_mends (d + 5) [.ref 0, .ref 7, .null] (W_PX pq0 pq1 pq2 pq3 pq4 pq5 pq6 pq7 pq8 pq9 lc fo rn rl rp td br yn yl yp xk sq oq rs rm rd ro tm sk wd ys ym yd yo lx pr be ts) 0 0 Q := by
  refine CT.of (by decide) (Nat.le_of_ble_eq_true rfl) ?_
  show SJ _ _ _ _ [some (.ref 0), some (.ref 7), some (.null), none, none, none] [] _ _ _ _
  refine j_aload_n d_Pap_mends_0 rfl ?_
  refine j_aload_n d_Pap_mends_1 rfl ?_
  refine j_aload_nV d_Pap_mends_2 rfl (LV.or hLV) ?_
  refine v_call2 d_Pap_mends_3 c_Pap_101 rfl ⟨_, rfl, rfl⟩ (Nat.le_of_ble_eq_true rfl) (t_Pap_priceAllN hn_ ht0 ht2 hLV n0_ n1_ (fun td br sk wd pr hpr => ?_))
  refine j_aload_n d_Pap_mends_6 rfl ?_
  refine gf_PX_7_0 f_Pap_72 d_Pap_mends_7 ?_
  refine gf_PX_8_1 f_Pap_77 d_Pap_mends_10 ?_
  refine j_istore_n d_Pap_mends_13 (by decide) ?_
  try rw [x_s1_V (i := 3) rfl (LV.cat hLV)]
  show SJ _ _ _ _ [_, _, _, _, _, _] _ _ _ _ _
  refine z_iconst d_Pap_mends_14 ?_
  refine j_istore d_Pap_mends_15 (by decide) ?_
  show SJ _ _ _ _ [_, _, _, _, _, _] _ _ _ _ _
  exact lp_mnd2N n0_ n1_ hLV hs hTL hpr (fun h be => ht h _ _ _ _ _ be) (fun h be => hf h _ _ _ _ _ be) _ 0 _ rfl (by omega) (by omega) (fun i j i0 ij jt => by omega)
theorem lp_mnd1R {g : Bool} {d : Nat} {Q : List xM → Option Value → Prop} {pq0 pq1 pq2 pq3 pq4 pq5 pq6 pq7 pq8 pq9 lc fo rn rl rp td br yn yl yp : Int} {xk sq oq rs rm rd ro tm sk wd ys ym yd yo : Int → Int} {lx : Nat → Option Nat} {pr : Int → Int → Int} {ts : List TD} {K : Int → Int} (n0_ : 0 ≤ rn) (n1_ : rn ≤ 20) {aw : Nat} (hLV : LV K 51 ts (.ref aw)) (hs : ∀ j, 0 ≤ j → j < rn → rs j = K (1 + j) ∧ 0 ≤ rs j ∧ rs j ≤ 11) (hTL : ∀ s p, 0 ≤ s → s ≤ 11 → 0 ≤ p → p ≤ 20 → 0 ≤ tl K 1 s p 1 ∧ tl K 1 s p 1 ≤ 99) (hpr : ∀ s q, 0 ≤ s → s < 6 → 0 ≤ q → q ≤ rn → pr s q = pB K s q) {to_ : Int} (t0_ : 0 ≤ to_) (t1_ : to_ ≤ rn) (hkk : ∀ be, (∀ i j, 0 ≤ i → i ≤ j → j < to_ + 1 → be i j = MDb K i j) → SJ g m_Pap_mends (d + 5) 76 [some (.ref 0), some (.ref 7), some (.ref aw), some (.int (ii rn)), some (.int (ii to_)), none] [] (W_PX pq0 pq1 pq2 pq3 pq4 pq5 pq6 pq7 pq8 pq9 lc fo rn rl rp td br yn yl yp xk sq oq rs rm rd ro tm sk wd ys ym yd yo lx pr be ts) 0 0 Q) : ∀ (nn : Nat) (q : Int) (be : Int → Int → Int), (q + 1).toNat = nn → -1 ≤ q → q < to_ → (∀ i j, 0 ≤ i → i ≤ j → j < to_ → be i j = MDb K i j) → (∀ i, q < i → i ≤ to_ → be i to_ = MDb K i to_) → SJ g m_Pap_mends (d + 5) 40 [some (.ref 0), some (.ref 7), some (.ref aw), some (.int (ii rn)), some (.int (ii (to_))), some (.int (ii q))] [] (W_PX pq0 pq1 pq2 pq3 pq4 pq5 pq6 pq7 pq8 pq9 lc fo rn rl rp td br yn yl yp xk sq oq rs rm rd ro tm sk wd ys ym yd yo lx pr be ts) 0 0 Q := by
  intro nn
  induction nn using Nat.strongRecOn with
  | ind nn ih =>
  intro q be hn q0 q1 hA hB
  refine j_iload d_Pap_mends_40 rfl ?_
  refine z_if_lt (t := 76) d_Pap_mends_42 (by decide) (by first | omega | exact hw _ | exact hx _ _ | assumption) (fun h42 => ?_) (fun h42 => ?_)
  · refine SJ.mask [true, true, true, true, true, false] ?_
    show SJ _ _ _ _ [_, _, _, _, _, none] _ _ _ _ _
    exact hkk be (fun i j i0 ij jt => by
      by_cases e : j = to_
      · rw [e]; exact hB i (by omega) (by omega)
      · exact hA i j i0 ij (by omega))
  · have hP : ∀ s p, 0 ≤ s → s < 6 → 0 ≤ p → p ≤ rn → 0 ≤ pr s p ∧ (pr s p ≤ 99 ∨ pr s p = 100000000) := fun s p s0 s1 p0 p1 => by
      rw [hpr s p s0 s1 p0 p1]; exact pB_R hTL s0 s1 p0 (by omega)
    have hc : ∀ s p, 0 ≤ s → s < 6 → 0 ≤ p → p ≤ rn → cB pr s p = cB (pB K) s p := fun s p s0 s1 p0 p1 => by
      unfold cB; rw [hpr s p s0 s1 p0 p1]
    have hM : ∀ a b, 0 ≤ a → a ≤ b → b ≤ rn → 0 ≤ MDb K a b ∧ MDb K a b ≤ 100000000 := fun a b h1 h2 h3 => MDb_R n1_ (fun j j0 j1 => by have := hs j j0 j1; omega) hTL h1 h2 h3
    have hbq : ∀ i j, q ≤ i → i ≤ j → j ≤ to_ → (i = q → j < to_) → be i j = MDb K i j := fun i j iq ij jt hx => by
      by_cases e : j = to_
      · rw [e]; exact hB i (by omega) (by omega)
      · exact hA i j (by omega) ij (by omega)
    have hbR : ∀ i j, q ≤ i → i ≤ j → j ≤ to_ → (i = q → j < to_) → 0 ≤ be i j ∧ be i j ≤ 100000000 := fun i j iq ij jt hx => by
      rw [hbq i j iq ij jt hx]; exact hM i j (by omega) ij (by omega)
    refine j_aload_n d_Pap_mends_45 rfl ?_
    refine gf_PX_0_14 f_Pap_58 d_Pap_mends_46 ?_
    refine j_iload d_Pap_mends_49 rfl ?_
    refine z_aald d_Pap_mends_51 rfl (by decide) (by omega) (by omega) (by omega) ?_
    refine j_iload d_Pap_mends_52 rfl ?_
    refine j_aload_n d_Pap_mends_54 rfl ?_
    refine j_aload_n d_Pap_mends_55 rfl ?_
    refine gf_PX_7_0 f_Pap_72 d_Pap_mends_56 ?_
    refine gf_PX_8_0 f_Pap_98 d_Pap_mends_59 ?_
    refine j_iload d_Pap_mends_62 rfl ?_
    refine j_iload d_Pap_mends_64 rfl ?_
    refine v_call3 d_Pap_mends_66 c_Pap_105 rfl ⟨_, rfl, rfl⟩ (Nat.le_of_ble_eq_true rfl) (t_Pap_mendRun (n := rn) n1_ (by omega) (by omega) (by omega) (fun j j0 j1 => (hs j j0 j1).2) hP hbR (fun ho => moR_R (n := rn) (by omega) (by omega) (by omega) ⟨(hs q (by omega) (by omega)).2.1, ho⟩ hP hbR) ?_)
    rw [mrR_eq (K := K) (c := cB (pB K)) (T := MDb K) (n := rn) (by omega) (by omega) (by omega) hs hc hbq (hM (q + 1) to_ (by omega) (by omega) (by omega)).2, ← MDb_eq (by omega)]
    refine z_iast d_Pap_mends_69 (PX_be (by omega) (by omega)) (by omega) (by omega) (by omega) ?_
    rw [PX_bes (by omega) (by omega)]
    refine z_iinc d_Pap_mends_70 rfl (by decide) ?_
    show SJ _ _ _ _ [_, _, _, _, _, _] _ _ _ _ _
    refine j_goto (t := 40) d_Pap_mends_73 (by decide) ?_
    refine ih _ (by omega) (q + -1) _ rfl (by omega) (by omega) (fun i j i0 ij jt => ?_) (fun i iq it => ?_)
    · by_cases e : i = q
      · rw [e, upR_eq, up_ne (by omega), ← e]; exact hA i j i0 ij jt
      · rw [upR_ne e]; exact hA i j i0 ij jt
    · by_cases e : i = q
      · rw [e, upR_eq, up_eq]
      · rw [upR_ne e]; exact hB i (by omega) it
theorem lp_mnd2R {g : Bool} {d : Nat} {Q : List xM → Option Value → Prop} {pq0 pq1 pq2 pq3 pq4 pq5 pq6 pq7 pq8 pq9 lc fo rn rl rp td br yn yl yp : Int} {xk sq oq rs rm rd ro tm sk wd ys ym yd yo : Int → Int} {lx : Nat → Option Nat} {pr : Int → Int → Int} {ts : List TD} {K : Int → Int} (n0_ : 0 ≤ rn) (n1_ : rn ≤ 20) {aw : Nat} (hLV : LV K 51 ts (.ref aw)) (hs : ∀ j, 0 ≤ j → j < rn → rs j = K (1 + j) ∧ 0 ≤ rs j ∧ rs j ≤ 11) (hTL : ∀ s p, 0 ≤ s → s ≤ 11 → 0 ≤ p → p ≤ 20 → 0 ≤ tl K 1 s p 1 ∧ tl K 1 s p 1 ≤ 99) (hpr : ∀ s q, 0 ≤ s → s < 6 → 0 ≤ q → q ≤ rn → pr s q = pB K s q) (ht : MDb K 0 rn < 100000000 → ∀ be, Q (W_PX ((MDb K 0 rn).tdiv 100) ((MDb K 0 rn).tmod 100) pq2 pq3 pq4 pq5 pq6 pq7 pq8 pq9 lc fo rn rl rp td br yn yl yp xk sq oq rs rm rd ro tm sk wd ys ym yd yo lx pr be ts) (some (.int (ii 1)))) (hf : ¬ MDb K 0 rn < 100000000 → ∀ be, Q (W_PX ((MDb K 0 rn).tdiv 100) ((MDb K 0 rn).tmod 100) pq2 pq3 pq4 pq5 pq6 pq7 pq8 pq9 lc fo rn rl rp td br yn yl yp xk sq oq rs rm rd ro tm sk wd ys ym yd yo lx pr be ts) (some (.int (ii 0))))  : ∀ (nn : Nat) (to_ : Int) (be : Int → Int → Int), (rn + 1 - to_).toNat = nn → 0 ≤ to_ → to_ ≤ rn + 1 → (∀ i j, 0 ≤ i → i ≤ j → j < to_ → be i j = MDb K i j) → SJ g m_Pap_mends (d + 5) 17 [some (.ref 0), some (.ref 7), some (.ref aw), some (.int (ii rn)), some (.int (ii (to_))), none] [] (W_PX pq0 pq1 pq2 pq3 pq4 pq5 pq6 pq7 pq8 pq9 lc fo rn rl rp td br yn yl yp xk sq oq rs rm rd ro tm sk wd ys ym yd yo lx pr be ts) 0 0 Q := by
  intro nn
  induction nn using Nat.strongRecOn with
  | ind nn ih =>
  intro to_ be hn t0_ t1_ hA
  refine j_iload d_Pap_mends_17 rfl ?_
  refine j_iload_n d_Pap_mends_19 rfl ?_
  refine z_icmp_gt (t := 82) d_Pap_mends_20 (by decide) (by first | omega | exact hw _ | exact hx _ _ | assumption) (by first | omega | exact hw _ | exact hx _ _ | assumption) (fun h20 => ?_) (fun h20 => ?_)
  · have hP : ∀ s p, 0 ≤ s → s < 6 → 0 ≤ p → p ≤ rn → 0 ≤ pr s p ∧ (pr s p ≤ 99 ∨ pr s p = 100000000) := fun s p s0 s1 p0 p1 => by
      rw [hpr s p s0 s1 p0 p1]; exact pB_R hTL s0 s1 p0 (by omega)
    have hc : ∀ s p, 0 ≤ s → s < 6 → 0 ≤ p → p ≤ rn → cB pr s p = cB (pB K) s p := fun s p s0 s1 p0 p1 => by
      unfold cB; rw [hpr s p s0 s1 p0 p1]
    have hM : ∀ a b, 0 ≤ a → a ≤ b → b ≤ rn → 0 ≤ MDb K a b ∧ MDb K a b ≤ 100000000 := fun a b h1 h2 h3 => MDb_R n1_ (fun j j0 j1 => by have := hs j j0 j1; omega) hTL h1 h2 h3
    have hm := hA 0 rn (by omega) n0_ (by omega)
    have hmr := hM 0 rn (by omega) n0_ (by omega)
    rw [← hm] at hmr
    refine j_aload_n d_Pap_mends_82 rfl ?_
    refine j_aload_n d_Pap_mends_83 rfl ?_
    refine gf_PX_0_14 f_Pap_58 d_Pap_mends_84 ?_
    refine z_iconst d_Pap_mends_87 ?_
    refine z_aald d_Pap_mends_88 rfl (by decide) (by omega) (by omega) (by omega) ?_
    refine j_iload_n d_Pap_mends_89 rfl ?_
    refine z_iald d_Pap_mends_90 (PX_be (by omega) (by omega)) (by omega) (by omega) (by omega) ?_
    refine z_bipush d_Pap_mends_91 (by decide) ?_
    refine z_idiv d_Pap_mends_93 (by first | omega | exact hw _ | exact hx _ _ | assumption) (by first | omega | exact hw _ | exact hx _ _ | assumption) (by decide) ?_
    refine pf_PX_0_0 f_Pap_9 d_Pap_mends_94 ?_
    refine j_aload_n d_Pap_mends_97 rfl ?_
    refine j_aload_n d_Pap_mends_98 rfl ?_
    refine gf_PX_0_14 f_Pap_58 d_Pap_mends_99 ?_
    refine z_iconst d_Pap_mends_102 ?_
    refine z_aald d_Pap_mends_103 rfl (by decide) (by omega) (by omega) (by omega) ?_
    refine j_iload_n d_Pap_mends_104 rfl ?_
    refine z_iald d_Pap_mends_105 (PX_be (by omega) (by omega)) (by omega) (by omega) (by omega) ?_
    refine z_bipush d_Pap_mends_106 (by decide) ?_
    refine z_irem d_Pap_mends_108 (by first | omega | exact hw _ | exact hx _ _ | assumption) (by first | omega | exact hw _ | exact hx _ _ | assumption) (by decide) ?_
    refine pf_PX_0_1 f_Pap_15 d_Pap_mends_109 ?_
    refine j_aload_n d_Pap_mends_112 rfl ?_
    refine gf_PX_0_14 f_Pap_58 d_Pap_mends_113 ?_
    refine z_iconst d_Pap_mends_116 ?_
    refine z_aald d_Pap_mends_117 rfl (by decide) (by omega) (by omega) (by omega) ?_
    refine j_iload_n d_Pap_mends_118 rfl ?_
    refine z_iald d_Pap_mends_119 (PX_be (by omega) (by omega)) (by omega) (by omega) (by omega) ?_
    refine z_ldc (w := 100000000) d_Pap_mends_120 k_Pap_86 (by decide) ?_
    refine z_icmp_ge (t := 129) d_Pap_mends_122 (by decide) (by first | omega | exact hw _ | exact hx _ _ | assumption) (by first | omega | exact hw _ | exact hx _ _ | assumption) (fun h122 => ?_) (fun h122 => ?_)
    · refine z_iconst d_Pap_mends_129 ?_
      rw [hm]
      first
      | exact z_zreturn rfl (Or.inr rfl) d_Pap_mends_130 (ht (by omega) be)
      | exact z_zreturn rfl (Or.inl rfl) d_Pap_mends_130 (hf (by omega) be)
    · refine z_iconst d_Pap_mends_125 ?_
      refine j_goto (t := 130) d_Pap_mends_126 (by decide) ?_
      rw [hm]
      first
      | exact z_zreturn rfl (Or.inr rfl) d_Pap_mends_130 (ht (by omega) be)
      | exact z_zreturn rfl (Or.inl rfl) d_Pap_mends_130 (hf (by omega) be)
  · refine j_aload_n d_Pap_mends_23 rfl ?_
    refine gf_PX_0_14 f_Pap_58 d_Pap_mends_24 ?_
    refine j_iload d_Pap_mends_27 rfl ?_
    refine z_aald d_Pap_mends_29 rfl (by decide) (by omega) (by omega) (by omega) ?_
    refine j_iload d_Pap_mends_30 rfl ?_
    refine z_iconst d_Pap_mends_32 ?_
    refine z_iast d_Pap_mends_33 (PX_be (by omega) (by omega)) (by omega) (by omega) (by omega) ?_
    rw [PX_bes (by omega) (by omega)]
    refine j_iload d_Pap_mends_34 rfl ?_
    refine z_iconst d_Pap_mends_36 ?_
    refine z_isub d_Pap_mends_37 ?_
    refine j_istore d_Pap_mends_38 (by decide) ?_
    show SJ _ _ _ _ [_, _, _, _, _, _] _ _ _ _ _
    refine lp_mnd1R n0_ n1_ hLV hs hTL hpr t0_ (by omega) (fun be hb => ?_) _ (to_ - 1) _ rfl (by omega) (by omega) (fun i j i0 ij jt => by rw [upR_ne (by omega)]; exact hA i j i0 ij jt) (fun i iq it => by
      have e : i = to_ := by omega
      rw [e, upR_eq, up_eq, MDb_self])
    refine z_iinc d_Pap_mends_76 rfl (by decide) ?_
    show SJ _ _ _ _ [_, _, _, _, _, _] _ _ _ _ _
    refine j_goto (t := 17) d_Pap_mends_79 (by decide) ?_
    exact ih _ (by omega) (to_ + 1) _ rfl (by omega) (by omega) hb
theorem t_Pap_mendsR {g : Bool} {d : Nat} {Q : List xM → Option Value → Prop} {pq0 pq1 pq2 pq3 pq4 pq5 pq6 pq7 pq8 pq9 lc fo rn rl rp td br yn yl yp : Int} {xk sq oq rs rm rd ro tm sk wd ys ym yd yo : Int → Int} {lx : Nat → Option Nat} {pr be : Int → Int → Int} {ts : List TD} {K : Int → Int} (hn_ : rn = K 0) (ht0 : tm 0 = K 21) (ht2 : tm 2 = K 23) {aw : Nat} (hLV : LV K 51 ts (.ref aw)) (n0_ : 0 ≤ rn) (n1_ : rn ≤ 20) (hs : ∀ j, 0 ≤ j → j < rn → rs j = K (1 + j) ∧ 0 ≤ rs j ∧ rs j ≤ 11) (hTL : ∀ s p, 0 ≤ s → s ≤ 11 → 0 ≤ p → p ≤ 20 → 0 ≤ tl K 1 s p 1 ∧ tl K 1 s p 1 ≤ 99) (ht : MDb K 0 rn < 100000000 → ∀ td br sk wd pr be, Q (W_PX ((MDb K 0 rn).tdiv 100) ((MDb K 0 rn).tmod 100) pq2 pq3 pq4 pq5 pq6 pq7 pq8 pq9 lc fo rn rl rp td br yn yl yp xk sq oq rs rm rd ro tm sk wd ys ym yd yo lx pr be ts) (some (.int (ii 1)))) (hf : ¬ MDb K 0 rn < 100000000 → ∀ td br sk wd pr be, Q (W_PX ((MDb K 0 rn).tdiv 100) ((MDb K 0 rn).tmod 100) pq2 pq3 pq4 pq5 pq6 pq7 pq8 pq9 lc fo rn rl rp td br yn yl yp xk sq oq rs rm rd ro tm sk wd ys ym yd yo lx pr be ts) (some (.int (ii 0))))  : CT g m_Pap_mends (d + 5) [.ref 0, .ref 7, .ref aw] (W_PX pq0 pq1 pq2 pq3 pq4 pq5 pq6 pq7 pq8 pq9 lc fo rn rl rp td br yn yl yp xk sq oq rs rm rd ro tm sk wd ys ym yd yo lx pr be ts) 0 0 Q := by
  refine CT.of (by decide) (Nat.le_of_ble_eq_true rfl) ?_
  show SJ _ _ _ _ [some (.ref 0), some (.ref 7), some (.ref aw), none, none, none] [] _ _ _ _
  refine j_aload_n d_Pap_mends_0 rfl ?_
  refine j_aload_n d_Pap_mends_1 rfl ?_
  refine j_aload_nV d_Pap_mends_2 rfl (LV.or hLV) ?_
  refine v_call2 d_Pap_mends_3 c_Pap_101 rfl ⟨_, rfl, rfl⟩ (Nat.le_of_ble_eq_true rfl) (t_Pap_priceAllR hn_ ht0 ht2 hLV n0_ n1_ (fun td br sk wd pr hpr => ?_))
  refine j_aload_n d_Pap_mends_6 rfl ?_
  refine gf_PX_7_0 f_Pap_72 d_Pap_mends_7 ?_
  refine gf_PX_8_1 f_Pap_77 d_Pap_mends_10 ?_
  refine j_istore_n d_Pap_mends_13 (by decide) ?_
  try rw [x_s1_V (i := 3) rfl (LV.cat hLV)]
  show SJ _ _ _ _ [_, _, _, _, _, _] _ _ _ _ _
  refine z_iconst d_Pap_mends_14 ?_
  refine j_istore d_Pap_mends_15 (by decide) ?_
  show SJ _ _ _ _ [_, _, _, _, _, _] _ _ _ _ _
  exact lp_mnd2R n0_ n1_ hLV hs hTL hpr (fun h be => ht h _ _ _ _ _ be) (fun h be => hf h _ _ _ _ _ be) _ 0 _ rfl (by omega) (by omega) (fun i j i0 ij jt => by omega)
theorem lp_str1 {g : Bool} {d : Nat} {Q : List xM → Option Value → Prop} {pq0 pq1 pq2 pq3 pq4 pq5 pq6 pq7 pq8 pq9 lc fo rn rl rp td br yn yl yp : Int} {xk sq oq rs rm rd ro tm sk wd ys ym yd yo : Int → Int} {lx : Nat → Option Nat} {pr : Int → Int → Int} {ts : List TD} {K : Int → Int} (n0_ : 0 ≤ rn) (n1_ : rn ≤ 20) (hs : ∀ j, 0 ≤ j → j < rn → rs j = K (1 + j) ∧ 0 ≤ rs j ∧ rs j ≤ 11) (hST : ∀ a b, 0 ≤ a → a ≤ b → b ≤ rn → 0 ≤ ST K a b ∧ ST K a b ≤ 1980) (hsk : ∀ p, 0 ≤ p → p < rn → sq p = tl K 2 (K (1 + p)) p 1 ∧ 0 ≤ sq p ∧ sq p ≤ 99) {to_ : Int} (t0_ : 0 ≤ to_) (t1_ : to_ ≤ rn) (hkk : ∀ be, (∀ i j, 0 ≤ i → i ≤ j → j < to_ + 1 → be i j = ST K i j) → SJ g m_Pap_strikes (d + 5) 69 [some (.ref 0), some (.ref 7), some (.int (ii rn)), some (.int (ii to_)), none] [] (W_PX pq0 pq1 pq2 pq3 pq4 pq5 pq6 pq7 pq8 pq9 lc fo rn rl rp td br yn yl yp xk sq oq rs rm rd ro tm sk wd ys ym yd yo lx pr be ts) 0 0 Q) : ∀ (nn : Nat) (q : Int) (be : Int → Int → Int), (q + 1).toNat = nn → -1 ≤ q → q < to_ → (∀ i j, 0 ≤ i → i ≤ j → j < to_ → be i j = ST K i j) → (∀ i, q < i → i ≤ to_ → be i to_ = ST K i to_) → SJ g m_Pap_strikes (d + 5) 35 [some (.ref 0), some (.ref 7), some (.int (ii rn)), some (.int (ii (to_))), some (.int (ii q))] [] (W_PX pq0 pq1 pq2 pq3 pq4 pq5 pq6 pq7 pq8 pq9 lc fo rn rl rp td br yn yl yp xk sq oq rs rm rd ro tm sk wd ys ym yd yo lx pr be ts) 0 0 Q := by
  intro nn
  induction nn using Nat.strongRecOn with
  | ind nn ih =>
  intro q be hn q0 q1 hA hB
  refine j_iload d_Pap_strikes_35 rfl ?_
  refine z_if_lt (t := 69) d_Pap_strikes_37 (by decide) (by first | omega | exact hw _ | exact hx _ _ | assumption) (fun h37 => ?_) (fun h37 => ?_)
  · refine SJ.mask [true, true, true, true, false] ?_
    show SJ _ _ _ _ [_, _, _, _, none] _ _ _ _ _
    exact hkk be (fun i j i0 ij jt => by
      by_cases e : j = to_
      · rw [e]; exact hB i (by omega) (by omega)
      · exact hA i j i0 ij (by omega))
  · have hbq : ∀ i j, q ≤ i → i ≤ j → j ≤ to_ → (i = q → j < to_) → be i j = ST K i j := fun i j iq ij jt hx => by
      by_cases e : j = to_
      · rw [e]; exact hB i (by omega) (by omega)
      · exact hA i j (by omega) ij (by omega)
    have hbR : ∀ i j, q ≤ i → i ≤ j → j ≤ to_ → (i = q → j < to_) → 0 ≤ be i j ∧ be i j ≤ 1980 := fun i j iq ij jt hx => by
      rw [hbq i j iq ij jt hx]; exact hST i j (by omega) ij (by omega)
    have hsq := hsk q (by omega) (by omega)
    refine j_aload_n d_Pap_strikes_40 rfl ?_
    refine gf_PX_0_14 f_Pap_58 d_Pap_strikes_41 ?_
    refine j_iload d_Pap_strikes_44 rfl ?_
    refine z_aald d_Pap_strikes_46 rfl (by decide) (by omega) (by omega) (by omega) ?_
    refine j_iload_n d_Pap_strikes_47 rfl ?_
    refine j_aload_n d_Pap_strikes_48 rfl ?_
    refine j_aload_n d_Pap_strikes_49 rfl ?_
    refine gf_PX_7_0 f_Pap_72 d_Pap_strikes_50 ?_
    refine gf_PX_8_0 f_Pap_98 d_Pap_strikes_53 ?_
    refine j_iload d_Pap_strikes_56 rfl ?_
    refine j_iload_n d_Pap_strikes_58 rfl ?_
    refine v_call3 d_Pap_strikes_59 c_Pap_139 rfl ⟨_, rfl, rfl⟩ (Nat.le_of_ble_eq_true rfl) (t_Pap_strikeRun (n := rn) n1_ (by omega) (by omega) (by omega) (fun j j0 j1 => (hs j j0 j1).2) hbR hsq.2 ?_)
    rw [srR_eq (K := K) (T := ST K) (n := rn) (by omega) (by omega) (by omega) hs hbq (hST (q + 1) to_ (by omega) (by omega) (by omega)).2 hsq.2, show stS K sq (ST K) q to_ = ST K q to_ by rw [ST_eq (show q < to_ by omega), ST_stS hsq.1]]
    refine z_iast d_Pap_strikes_62 (PX_be (by omega) (by omega)) (by omega) (by omega) (by omega) ?_
    rw [PX_bes (by omega) (by omega)]
    refine z_iinc d_Pap_strikes_63 rfl (by decide) ?_
    show SJ _ _ _ _ [_, _, _, _, _] _ _ _ _ _
    refine j_goto (t := 35) d_Pap_strikes_66 (by decide) ?_
    refine ih _ (by omega) (q + -1) _ rfl (by omega) (by omega) (fun i j i0 ij jt => ?_) (fun i iq it => ?_)
    · by_cases e : i = q
      · rw [e, upR_eq, up_ne (by omega), ← e]; exact hA i j i0 ij jt
      · rw [upR_ne e]; exact hA i j i0 ij jt
    · by_cases e : i = q
      · rw [e, upR_eq, up_eq]
      · rw [upR_ne e]; exact hB i (by omega) it
theorem lp_str2 {g : Bool} {d : Nat} {Q : List xM → Option Value → Prop} {pq0 pq1 pq2 pq3 pq4 pq5 pq6 pq7 pq8 pq9 lc fo rn rl rp td br yn yl yp : Int} {xk sq oq rs rm rd ro tm sk wd ys ym yd yo : Int → Int} {lx : Nat → Option Nat} {pr : Int → Int → Int} {ts : List TD} {K : Int → Int} (n0_ : 0 ≤ rn) (n1_ : rn ≤ 20) (hs : ∀ j, 0 ≤ j → j < rn → rs j = K (1 + j) ∧ 0 ≤ rs j ∧ rs j ≤ 11) (hST : ∀ a b, 0 ≤ a → a ≤ b → b ≤ rn → 0 ≤ ST K a b ∧ ST K a b ≤ 1980) (hsk : ∀ p, 0 ≤ p → p < rn → sq p = tl K 2 (K (1 + p)) p 1 ∧ 0 ≤ sq p ∧ sq p ≤ 99) (hQ : ∀ be, (∀ i j, 0 ≤ i → i ≤ j → j ≤ rn → be i j = ST K i j) → Q (W_PX pq0 pq1 pq2 pq3 pq4 pq5 pq6 pq7 pq8 pq9 lc fo rn rl rp td br yn yl yp xk sq oq rs rm rd ro tm sk wd ys ym yd yo lx pr be ts) (some (.int (ii (ST K 0 rn)))))  : ∀ (nn : Nat) (to_ : Int) (be : Int → Int → Int), (rn + 1 - to_).toNat = nn → 0 ≤ to_ → to_ ≤ rn + 1 → (∀ i j, 0 ≤ i → i ≤ j → j < to_ → be i j = ST K i j) → SJ g m_Pap_strikes (d + 5) 16 [some (.ref 0), some (.ref 7), some (.int (ii rn)), some (.int (ii (to_))), none] [] (W_PX pq0 pq1 pq2 pq3 pq4 pq5 pq6 pq7 pq8 pq9 lc fo rn rl rp td br yn yl yp xk sq oq rs rm rd ro tm sk wd ys ym yd yo lx pr be ts) 0 0 Q := by
  intro nn
  induction nn using Nat.strongRecOn with
  | ind nn ih =>
  intro to_ be hn t0_ t1_ hA
  refine j_iload_n d_Pap_strikes_16 rfl ?_
  refine j_iload_n d_Pap_strikes_17 rfl ?_
  refine z_icmp_gt (t := 75) d_Pap_strikes_18 (by decide) (by first | omega | exact hw _ | exact hx _ _ | assumption) (by first | omega | exact hw _ | exact hx _ _ | assumption) (fun h18 => ?_) (fun h18 => ?_)
  · refine j_aload_n d_Pap_strikes_75 rfl ?_
    refine gf_PX_0_14 f_Pap_58 d_Pap_strikes_76 ?_
    refine z_iconst d_Pap_strikes_79 ?_
    refine z_aald d_Pap_strikes_80 rfl (by decide) (by omega) (by omega) (by omega) ?_
    refine j_iload_n d_Pap_strikes_81 rfl ?_
    refine z_iald d_Pap_strikes_82 (PX_be (by omega) (by omega)) (by omega) (by omega) (by omega) ?_
    exact z_iret rfl d_Pap_strikes_83 (hA 0 rn (by omega) n0_ (by omega)) (hQ be (fun i j i0 ij jt => hA i j i0 ij (by omega)))
  · refine j_aload_n d_Pap_strikes_21 rfl ?_
    refine gf_PX_0_14 f_Pap_58 d_Pap_strikes_22 ?_
    refine j_iload_n d_Pap_strikes_25 rfl ?_
    refine z_aald d_Pap_strikes_26 rfl (by decide) (by omega) (by omega) (by omega) ?_
    refine j_iload_n d_Pap_strikes_27 rfl ?_
    refine z_iconst d_Pap_strikes_28 ?_
    refine z_iast d_Pap_strikes_29 (PX_be (by omega) (by omega)) (by omega) (by omega) (by omega) ?_
    rw [PX_bes (by omega) (by omega)]
    refine j_iload_n d_Pap_strikes_30 rfl ?_
    refine z_iconst d_Pap_strikes_31 ?_
    refine z_isub d_Pap_strikes_32 ?_
    refine j_istore d_Pap_strikes_33 (by decide) ?_
    show SJ _ _ _ _ [_, _, _, _, _] _ _ _ _ _
    refine lp_str1 n0_ n1_ hs hST hsk t0_ (by omega) (fun be hb => ?_) _ (to_ - 1) _ rfl (by omega) (by omega) (fun i j i0 ij jt => by rw [upR_ne (by omega)]; exact hA i j i0 ij jt) (fun i iq it => by
      have e : i = to_ := by omega
      rw [e, upR_eq, up_eq, ST_self])
    refine z_iinc d_Pap_strikes_69 rfl (by decide) ?_
    show SJ _ _ _ _ [_, _, _, _, _] _ _ _ _ _
    refine j_goto (t := 16) d_Pap_strikes_72 (by decide) ?_
    exact ih _ (by omega) (to_ + 1) _ rfl (by omega) (by omega) hb
theorem t_Pap_strikes {g : Bool} {d : Nat} {Q : List xM → Option Value → Prop} {pq0 pq1 pq2 pq3 pq4 pq5 pq6 pq7 pq8 pq9 lc fo rn rl rp td br yn yl yp : Int} {xk sq oq rs rm rd ro tm sk wd ys ym yd yo : Int → Int} {lx : Nat → Option Nat} {pr be : Int → Int → Int} {ts : List TD} {K : Int → Int} (hS : SI K lc fo rn rl rp rs rm rd tm) (hX : LX K lx ts) (hST : ∀ a b, 0 ≤ a → a ≤ b → b ≤ rn → 0 ≤ ST K a b ∧ ST K a b ≤ 1980) (hTL : ∀ s p, 0 ≤ s → s ≤ 11 → 0 ≤ p → p ≤ 20 → 0 ≤ tl K 2 s p 1 ∧ tl K 2 s p 1 ≤ 99) (hQ : ∀ td br sk wd sq be, (∀ i j, 0 ≤ i → i ≤ j → j ≤ rn → be i j = ST K i j) → Q (W_PX pq0 pq1 pq2 pq3 pq4 pq5 pq6 pq7 pq8 pq9 lc fo rn rl rp td br yn yl yp xk sq oq rs rm rd ro tm sk wd ys ym yd yo lx pr be ts) (some (.int (ii (ST K 0 rn)))))  : CT g m_Pap_strikes (d + 5) [.ref 0, .ref 7] (W_PX pq0 pq1 pq2 pq3 pq4 pq5 pq6 pq7 pq8 pq9 lc fo rn rl rp td br yn yl yp xk sq oq rs rm rd ro tm sk wd ys ym yd yo lx pr be ts) 0 0 Q := by
  refine CT.of (by decide) (Nat.le_of_ble_eq_true rfl) ?_
  show SJ _ _ _ _ [some (.ref 0), some (.ref 7), none, none, none] [] _ _ _ _
  obtain ⟨hR, hKR, htm0, htm1, htm2, hlc, hfo⟩ := id hS
  obtain ⟨hrn, ⟨hn0, hn1⟩, hrs, hrp, hpu⟩ := id hR
  obtain ⟨⟨kn0, kn1⟩, kns, ⟨kp0, kp1⟩, ⟨kd0, kd1⟩, ⟨km0, km1⟩, ⟨kt0, kt1⟩, ⟨kf0, kf1⟩⟩ := id hKR
  refine j_aload_n d_Pap_strikes_0 rfl ?_
  refine j_aload_n d_Pap_strikes_1 rfl ?_
  refine z_iconst d_Pap_strikes_2 ?_
  refine v_call2 d_Pap_strikes_3 c_Pap_135 rfl ⟨_, rfl, rfl⟩ (Nat.le_of_ble_eq_true rfl) (t_Pap_stakeAll (what := 1) hS hX (by omega) (by omega) (fun td br sk wd sq hsq => ?_))
  refine j_aload_n d_Pap_strikes_6 rfl ?_
  refine gf_PX_7_0 f_Pap_72 d_Pap_strikes_7 ?_
  refine gf_PX_8_1 f_Pap_77 d_Pap_strikes_10 ?_
  refine j_istore_n d_Pap_strikes_13 (by decide) ?_
  show SJ _ _ _ _ [_, _, _, _, _] _ _ _ _ _
  refine z_iconst d_Pap_strikes_14 ?_
  refine j_istore_n d_Pap_strikes_15 (by decide) ?_
  show SJ _ _ _ _ [_, _, _, _, _] _ _ _ _ _
  refine lp_str2 (by omega) (by omega) hrs hST (fun p p0 p1 => ?_) (fun be hb => hQ _ _ _ _ _ be hb) _ 0 _ rfl (by omega) (by omega) (fun i j i0 ij jt => by omega)
  have h1 := hrs p p0 p1
  have h2 := hsq p p0 p1
  rw [h1.1] at h2
  have h3 := hTL (K (1 + p)) p (by omega) (by omega) p0 (by omega)
  rw [h2]
  exact ⟨rfl, h3⟩
