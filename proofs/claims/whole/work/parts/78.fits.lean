theorem E_PX_R2 {g : Bool} {y : xY} {d : Nat} {args as2 : List Value} {Q : List xM → Option Value → Prop} {pq0 pq1 pq2 pq3 pq4 pq5 pq6 pq7 pq8 pq9 lc fo rn rl rp td br yn yl yp : Int} {xk sq oq rs rm rd ro tm sk wd ys ym yd yo : Int → Int} {lx : Nat → Option Nat} {pr be : Int → Int → Int} {ts : List TD} (h : ∀ Q2 : List xM → Option Value → Prop, (∀ (rn_ : Int) (rl_ : Int) (rp_ : Int) (qn_ : Int) (ql_ : Int) (qp_ : Int) (rs_ : Int → Int) (rm_ : Int → Int) (rd_ : Int → Int) (ro_ : Int → Int) (qs_ : Int → Int) (qm_ : Int → Int) (qd_ : Int → Int) (qo_ : Int → Int) (r : Option Value), r.map (r_v (sgl [17, 18, 19, 20, 21, 8, 6, 9, 10, 11] 22)) = r → Q (W_PX pq0 pq1 pq2 pq3 pq4 pq5 pq6 pq7 pq8 pq9 lc fo qn_ ql_ qp_ td br rn_ rl_ rp_ xk sq oq qs_ qm_ qd_ qo_ tm sk wd rs_ rm_ rd_ ro_ lx pr be ts) r → Q2 (W_R2 rn_ rl_ rp_ qn_ ql_ qp_ rs_ rm_ rd_ ro_ qs_ qm_ qd_ qo_) r) → CT false y d args (W_R2 yn yl yp rn rl rp ys ym yd yo rs rm rd ro) 0 0 Q2) (ha2 : as2 = args.map (r_v (sgl [17, 18, 19, 20, 21, 8, 6, 9, 10, 11] 22))) : CT g y d as2 (W_PX pq0 pq1 pq2 pq3 pq4 pq5 pq6 pq7 pq8 pq9 lc fo rn rl rp td br yn yl yp xk sq oq rs rm rd ro tm sk wd ys ym yd yo lx pr be ts) 0 0 Q :=
  CT.sub (sgl [17, 18, 19, 20, 21, 8, 6, 9, 10, 11] 22) (sgl_inj (by decide) (by decide)) (Emb.hs (Emb.cons rfl (Emb.cons rfl (Emb.cons rfl (Emb.cons rfl (Emb.cons rfl (Emb.cons rfl (Emb.cons rfl (Emb.cons rfl (Emb.cons rfl (Emb.cons rfl (Emb.nil)))))))))))) ha2 (h _ (fun _ _ _ _ _ _ _ _ _ _ _ _ _ _ r hr hq => ⟨rfl, by rw [hr]; exact hq⟩))
theorem E_PX_Tri {g : Bool} {y : xY} {d : Nat} {args as2 : List Value} {Q : List xM → Option Value → Prop} {pq0 pq1 pq2 pq3 pq4 pq5 pq6 pq7 pq8 pq9 lc fo rn rl rp td br yn yl yp : Int} {xk sq oq rs rm rd ro tm sk wd ys ym yd yo : Int → Int} {lx : Nat → Option Nat} {pr be : Int → Int → Int} {ts : List TD} (h : ∀ Q2 : List xM → Option Value → Prop, (∀ (rn_ : Int) (rl_ : Int) (rp_ : Int) (rs_ : Int → Int) (rm_ : Int → Int) (rd_ : Int → Int) (ro_ : Int → Int) (r : Option Value), r.map (r_v (sgl [17, 18, 19, 20, 21] 22)) = r → Q (W_PX pq0 pq1 pq2 pq3 pq4 pq5 pq6 pq7 pq8 pq9 lc fo rn rl rp td br rn_ rl_ rp_ xk sq oq rs rm rd ro tm sk wd rs_ rm_ rd_ ro_ lx pr be ts) r → Q2 (W_Row rn_ rl_ rp_ rs_ rm_ rd_ ro_) r) → CT false y d args (W_Row yn yl yp ys ym yd yo) 0 0 Q2) (ha2 : as2 = args.map (r_v (sgl [17, 18, 19, 20, 21] 22))) : CT g y d as2 (W_PX pq0 pq1 pq2 pq3 pq4 pq5 pq6 pq7 pq8 pq9 lc fo rn rl rp td br yn yl yp xk sq oq rs rm rd ro tm sk wd ys ym yd yo lx pr be ts) 0 0 Q :=
  CT.sub (sgl [17, 18, 19, 20, 21] 22) (sgl_inj (by decide) (by decide)) (Emb.hs (Emb.cons rfl (Emb.cons rfl (Emb.cons rfl (Emb.cons rfl (Emb.cons rfl (Emb.nil))))))) ha2 (h _ (fun _ _ _ _ _ _ _ r hr hq => ⟨rfl, by rw [hr]; exact hq⟩))
theorem or_ii0 (x : Int32) : x ||| ii 0 = x := by
  show x ||| 0 = x
  exact Int32.or_zero
theorem RI_trial {K ys ym yd : Int → Int} {rn yl p s : Int} (hn : rn = K 0) (n0 : 0 ≤ rn) (n1 : rn ≤ 20) (hK : ∀ j, 0 ≤ j → j < rn → 0 ≤ K (1 + j) ∧ K (1 + j) ≤ 11) (p0 : 0 ≤ p) (s0 : 0 ≤ s) (s1 : s ≤ 11) (hy : ∀ j, 0 ≤ j → j < rn → j ≠ p → ys j = K (1 + j)) : RI (up K (1 + p) s) rn yl 0 (up ys p s) ym yd := by
  refine ⟨by rw [up_ne (by omega)]; exact hn, ⟨n0, n1⟩, fun j j0 j1 => ?_, Or.inl rfl, fun h => absurd h (by decide)⟩
  by_cases e : j = p
  · rw [e, up_eq, up_eq]
    exact ⟨rfl, s0, s1⟩
  · rw [up_ne e, up_ne (by omega), hy j j0 j1 e]
    exact ⟨rfl, hK j j0 j1⟩
theorem lp_fit {g : Bool} {d : Nat} {Q : List xM → Option Value → Prop} {pq0 pq1 pq2 pq3 pq4 pq5 pq6 pq7 pq8 pq9 lc fo rn rl rp td br : Int} {xk sq oq rs rm rd ro tm sk wd : Int → Int} {lx : Nat → Option Nat} {pr be : Int → Int → Int} {ts : List TD} {K : Int → Int} (hn_ : rn = K 0) (n0_ : 0 ≤ rn) (n1_ : rn ≤ 20) (hKK : ∀ j, 0 ≤ j → j < rn → 0 ≤ K (1 + j) ∧ K (1 + j) ≤ 11) {p : Int} (p0 : 0 ≤ p) (p1 : p < rn) (hQ : ∀ yl yp ys ym yd yo, Q (W_PX pq0 pq1 pq2 pq3 pq4 pq5 pq6 pq7 pq8 pq9 lc fo rn rl rp td br rn yl yp xk sq oq rs rm rd ro tm sk wd ys ym yd yo lx pr be ts) (some (.int (ftF K p 6))))  : ∀ (nn : Nat) (s : Int) (yl : Int) (yp : Int) (ys : Int → Int) (ym : Int → Int) (yd : Int → Int) (yo : Int → Int), (6 - s).toNat = nn → 0 ≤ s → s ≤ 6 → (∀ j, 0 ≤ j → j < rn → j ≠ p → ys j = K (1 + j)) → SJ g m_Pap_fitting (d + 2) 13 [some (.ref 0), some (.ref 8), some (.int (ii p)), some (.int (ftF K p s.toNat)), some (.int (ii s))] [] (W_PX pq0 pq1 pq2 pq3 pq4 pq5 pq6 pq7 pq8 pq9 lc fo rn rl rp td br rn yl yp xk sq oq rs rm rd ro tm sk wd ys ym yd yo lx pr be ts) 0 0 Q := by
  intro nn
  induction nn using Nat.strongRecOn with
  | ind nn ih =>
  intro s yl yp ys ym yd yo hn s0 s1 hy
  refine j_iload d_Pap_fitting_13 rfl ?_
  refine z_bipush d_Pap_fitting_15 (by decide) ?_
  refine z_icmp_ge (t := 63) d_Pap_fitting_17 (by decide) (by first | omega | exact hw _ | exact hx _ _ | assumption) (by first | omega | exact hw _ | exact hx _ _ | assumption) (fun h17 => ?_) (fun h17 => ?_)
  · refine j_iload_n d_Pap_fitting_63 rfl ?_
    have e : s = 6 := by omega
    subst e
    exact j_ireturn rfl d_Pap_fitting_64 (hQ _ _ _ _ _ _)
  · refine j_aload_n d_Pap_fitting_20 rfl ?_
    refine gf_PX_0_12 f_Pap_49 d_Pap_fitting_21 ?_
    refine j_iload_n d_Pap_fitting_24 rfl ?_
    refine j_iload d_Pap_fitting_25 rfl ?_
    refine v_call2 d_Pap_fitting_27 c_Pap_153 rfl ⟨_, rfl, rfl⟩ (Nat.le_of_ble_eq_true rfl) (E_PX_Tri (fun Q2 kz => t_Row_replace (by omega) (by omega) (by omega) (fun h27 => kz _ _ _ _ _ _ _ _ rfl ?_) (fun h27 => kz _ _ _ _ _ _ _ _ rfl (by exfalso; omega))) rfl)
    refine j_aload_n d_Pap_fitting_30 rfl ?_
    refine gf_PX_0_12 f_Pap_49 d_Pap_fitting_31 ?_
    refine z_iconst d_Pap_fitting_34 ?_
    refine j_aload_n d_Pap_fitting_35 rfl ?_
    refine gf_PX_0_12 f_Pap_49 d_Pap_fitting_36 ?_
    refine gf_PX_17_1 f_Pap_77 d_Pap_fitting_39 ?_
    refine z_iconst d_Pap_fitting_42 ?_
    refine z_isub d_Pap_fitting_43 ?_
    refine v_call2 d_Pap_fitting_44 c_Pap_145 rfl ⟨_, rfl, rfl⟩ (Nat.le_of_ble_eq_true rfl) (E_PX_Tri (fun Q2 kz => t_Row_isWhole (RI_trial hn_ n0_ n1_ hKK p0 s0 (by omega) hy) (by omega) (by omega) (by omega) (fun h44 yl2 yp2 ym2 yd2 yo2 hR2 => kz _ _ _ _ _ _ _ _ rfl ?_) (fun h44 yl2 yp2 ym2 yd2 yo2 hR2 => kz _ _ _ _ _ _ _ _ rfl ?_)) rfl)
    · rw [show rn - 1 + 1 = K 0 by omega] at h44
      refine z_if_eq (t := 57) d_Pap_fitting_47 (by decide) (by first | omega | exact hw _ | exact hx _ _ | assumption) (fun h => absurd h (by decide)) (fun _ => ?_)
      have fnd_ := h44
      refine j_iload_n d_Pap_fitting_50 rfl ?_
      refine z_iconst d_Pap_fitting_51 ?_
      refine j_iload d_Pap_fitting_52 rfl ?_
      refine j_ishl d_Pap_fitting_54 ?_
      refine j_ior d_Pap_fitting_55 ?_
      refine j_istore_n d_Pap_fitting_56 (by decide) ?_
      show SJ _ _ _ _ [_, _, _, _, _] _ _ _ _ _
      refine z_iinc d_Pap_fitting_57 rfl (by decide) ?_
      show SJ _ _ _ _ [_, _, _, _, _] _ _ _ _ _
      refine j_goto (t := 13) d_Pap_fitting_60 (by decide) ?_
      first
      | (have fnd2_ := fnd_
         rw [← ftF_p (K := K) (p := p) s0 h44]
         exact ih _ (by omega) (s + 1) _ _ _ _ _ _ rfl (by omega) (by omega) (fun j j0 j1 je => by rw [up_ne je]; exact hy j j0 j1 je))
      | (have e9 : ftF K p s.toNat = ftF K p (s + 1).toNat := by rw [ftF_n s0 h44, or_ii0]
         rw [e9]
         exact ih _ (by omega) (s + 1) _ _ _ _ _ _ rfl (by omega) (by omega) (fun j j0 j1 je => by rw [up_ne je]; exact hy j j0 j1 je))
    · rw [show rn - 1 + 1 = K 0 by omega] at h44
      refine z_if_eq (t := 57) d_Pap_fitting_47 (by decide) (by first | omega | exact hw _ | exact hx _ _ | assumption) (fun _ => ?_) (fun h => absurd h (by decide))
      refine z_iinc d_Pap_fitting_57 rfl (by decide) ?_
      show SJ _ _ _ _ [_, _, _, _, _] _ _ _ _ _
      refine j_goto (t := 13) d_Pap_fitting_60 (by decide) ?_
      first
      | (have fnd2_ := fnd_
         rw [← ftF_p (K := K) (p := p) s0 h44]
         exact ih _ (by omega) (s + 1) _ _ _ _ _ _ rfl (by omega) (by omega) (fun j j0 j1 je => by rw [up_ne je]; exact hy j j0 j1 je))
      | (have e9 : ftF K p s.toNat = ftF K p (s + 1).toNat := by rw [ftF_n s0 h44, or_ii0]
         rw [e9]
         exact ih _ (by omega) (s + 1) _ _ _ _ _ _ rfl (by omega) (by omega) (fun j j0 j1 je => by rw [up_ne je]; exact hy j j0 j1 je))
theorem t_Pap_fitting {g : Bool} {d : Nat} {Q : List xM → Option Value → Prop} {pq0 pq1 pq2 pq3 pq4 pq5 pq6 pq7 pq8 pq9 lc fo rn rl rp td br yn yl yp : Int} {xk sq oq rs rm rd ro tm sk wd ys ym yd yo : Int → Int} {lx : Nat → Option Nat} {pr be : Int → Int → Int} {ts : List TD} {K : Int → Int} (hn_ : rn = K 0) (n0_ : 0 ≤ rn) (n1_ : rn ≤ 20) (hKK : ∀ j, 0 ≤ j → j < rn → 0 ≤ K (1 + j) ∧ K (1 + j) ≤ 11) {p : Int} (p0 : 0 ≤ p) (p1 : p < rn) (hrs : ∀ j, 0 ≤ j → j < rn → rs j = K (1 + j)) (hQ : ∀ yl yp ys ym yd yo, Q (W_PX pq0 pq1 pq2 pq3 pq4 pq5 pq6 pq7 pq8 pq9 lc fo rn rl rp td br rn yl yp xk sq oq rs rm rd ro tm sk wd ys ym yd yo lx pr be ts) (some (.int (ftF K p 6))))  : CT g m_Pap_fitting (d + 2) [.ref 0, .ref 8, .int (ii p)] (W_PX pq0 pq1 pq2 pq3 pq4 pq5 pq6 pq7 pq8 pq9 lc fo rn rl rp td br yn yl yp xk sq oq rs rm rd ro tm sk wd ys ym yd yo lx pr be ts) 0 0 Q := by
  refine CT.of (by decide) (Nat.le_of_ble_eq_true rfl) ?_
  show SJ _ _ _ _ [some (.ref 0), some (.ref 8), some (.int (ii p)), none, none] [] _ _ _ _
  refine j_aload_n d_Pap_fitting_0 rfl ?_
  refine gf_PX_0_12 f_Pap_49 d_Pap_fitting_1 ?_
  refine j_aload_n d_Pap_fitting_4 rfl ?_
  refine v_call1 d_Pap_fitting_5 c_Pap_149 rfl ⟨_, rfl, rfl⟩ (Nat.le_of_ble_eq_true rfl) (E_PX_R2 (fun Q2 kz => t_Row_copyFrom (kz _ _ _ _ _ _ _ _ _ _ _ _ _ _ _ rfl ?_)) rfl)
  refine z_iconst d_Pap_fitting_8 ?_
  refine j_istore_n d_Pap_fitting_9 (by decide) ?_
  show SJ _ _ _ _ [_, _, _, _, _] _ _ _ _ _
  refine z_iconst d_Pap_fitting_10 ?_
  refine j_istore d_Pap_fitting_11 (by decide) ?_
  show SJ _ _ _ _ [_, _, _, _, _] _ _ _ _ _
  exact lp_fit hn_ n0_ n1_ hKK p0 p1 hQ _ 0 _ _ _ _ _ _ rfl (by omega) (by omega) (fun j j0 j1 je => by rw [cpy_in (by omega) (by omega), show 0 + (j - 0) = j by omega]; exact hrs j j0 j1)
theorem t_Pap_isOneOf {g : Bool} {d : Nat} {Q : List xM → Option Value → Prop} {mem : List xM} {people s : Int} (r2 : R32 s) (ht : 6 ≤ s ∧ bq people s → Q mem (some (.int (ii 1)))) (hf : ¬ (6 ≤ s ∧ bq people s) → Q mem (some (.int (ii 0))))  : CT g m_Pap_isOneOf (d + 1) [.int (ii people), .int (ii s)] mem 0 0 Q := by
  refine CT.of (by decide) (Nat.le_of_ble_eq_true rfl) ?_
  show SJ _ _ _ _ [some (.int (ii people)), some (.int (ii s))] [] _ _ _ _
  refine j_iload_n d_Pap_isOneOf_0 rfl ?_
  refine s_call1 d_Pap_isOneOf_1 c_Pap_109 (Nat.le_of_ble_eq_true rfl) (t_Row_isName (by first | omega | exact hw _ | exact hx _ _ | assumption) (fun h1 => ?_) (fun h1 => ?_))
  · refine z_if_eq (t := 23) d_Pap_isOneOf_4 (by decide) (by first | omega | exact hw _ | exact hx _ _ | assumption) (fun h => absurd h (by decide)) (fun _ => ?_)
    refine j_iload_n d_Pap_isOneOf_7 rfl ?_
    refine j_iload_n d_Pap_isOneOf_8 rfl ?_
    refine s_call1 d_Pap_isOneOf_9 c_Pap_169 (Nat.le_of_ble_eq_true rfl) (t_Row_personOf (by first | omega | exact hw _ | exact hx _ _ | assumption) ?_)
    refine j_ishr d_Pap_isOneOf_12 ?_
    refine z_iconst d_Pap_isOneOf_13 ?_
    refine j_iand d_Pap_isOneOf_14 ?_
    refine z_iconst d_Pap_isOneOf_15 ?_
    refine j_icmp_ne (t := 23) d_Pap_isOneOf_16 (by decide) (fun h16 => ?_) (fun h16 => ?_)
    · refine z_iconst d_Pap_isOneOf_23 ?_
      first
      | exact z_zreturn rfl (Or.inl rfl) d_Pap_isOneOf_24 (hf (fun z => h16 (by rw [if_pos h1]; exact z.2)))
      | exact z_zreturn rfl (Or.inl rfl) d_Pap_isOneOf_24 (hf (fun z => h1 z.1))
    · refine z_iconst d_Pap_isOneOf_19 ?_
      refine j_goto (t := 24) d_Pap_isOneOf_20 (by decide) ?_
      exact z_zreturn rfl (Or.inr rfl) d_Pap_isOneOf_24 (ht ⟨h1, by rw [if_pos h1] at h16; exact h16⟩)
  · refine z_if_eq (t := 23) d_Pap_isOneOf_4 (by decide) (by first | omega | exact hw _ | exact hx _ _ | assumption) (fun _ => ?_) (fun h => absurd h (by decide))
    refine z_iconst d_Pap_isOneOf_23 ?_
    first
    | exact z_zreturn rfl (Or.inl rfl) d_Pap_isOneOf_24 (hf (fun z => h16 (by rw [if_pos h1]; exact z.2)))
    | exact z_zreturn rfl (Or.inl rfl) d_Pap_isOneOf_24 (hf (fun z => h1 z.1))
