theorem E_PX_Row {g : Bool} {y : xY} {d : Nat} {args as2 : List Value} {Q : List xM → Option Value → Prop} {pq0 pq1 pq2 pq3 pq4 pq5 pq6 pq7 pq8 pq9 lc fo rn rl rp td br yn yl yp : Int} {xk sq oq rs rm rd ro tm sk wd ys ym yd yo : Int → Int} {lx : Nat → Option Nat} {pr be : Int → Int → Int} {ts : List TD} (h : ∀ Q2 : List xM → Option Value → Prop, (∀ (rn_ : Int) (rl_ : Int) (rp_ : Int) (rs_ : Int → Int) (rm_ : Int → Int) (rd_ : Int → Int) (ro_ : Int → Int) (r : Option Value), r.map (r_v (sgl [8, 6, 9, 10, 11] 12)) = r → Q (W_PX pq0 pq1 pq2 pq3 pq4 pq5 pq6 pq7 pq8 pq9 lc fo rn_ rl_ rp_ td br yn yl yp xk sq oq rs_ rm_ rd_ ro_ tm sk wd ys ym yd yo lx pr be ts) r → Q2 (W_Row rn_ rl_ rp_ rs_ rm_ rd_ ro_) r) → CT false y d args (W_Row rn rl rp rs rm rd ro) 0 0 Q2) (ha2 : as2 = args.map (r_v (sgl [8, 6, 9, 10, 11] 12))) : CT g y d as2 (W_PX pq0 pq1 pq2 pq3 pq4 pq5 pq6 pq7 pq8 pq9 lc fo rn rl rp td br yn yl yp xk sq oq rs rm rd ro tm sk wd ys ym yd yo lx pr be ts) 0 0 Q :=
  CT.sub (sgl [8, 6, 9, 10, 11] 12) (sgl_inj (by decide) (by decide)) (Emb.hs (Emb.cons rfl (Emb.cons rfl (Emb.cons rfl (Emb.cons rfl (Emb.cons rfl (Emb.nil))))))) ha2 (h _ (fun _ _ _ _ _ _ _ r hr hq => ⟨rfl, by rw [hr]; exact hq⟩))
theorem E_PX_AK {g : Bool} {y : xY} {d : Nat} {args as2 : List Value} {Q : List xM → Option Value → Prop} {pq0 pq1 pq2 pq3 pq4 pq5 pq6 pq7 pq8 pq9 lc fo rn rl rp td br yn yl yp : Int} {xk sq oq rs rm rd ro tm sk wd ys ym yd yo : Int → Int} {lx : Nat → Option Nat} {pr be : Int → Int → Int} {ts : List TD} {j : Nat} {t : TD} (hj : ts[j]? = some t) (h : ∀ Q2 : List xM → Option Value → Prop, (∀ (td_ br_ : Int) (sk_ wd_ : Int → Int) (r : Option Value), r.map (r_v (sgl [13, 14, 15, 16, 7, 8, 12, 51 + 8 * j, 51 + 8 * j + 1, 51 + 8 * j + 2, 51 + 8 * j + 3, 51 + 8 * j + 4, 51 + 8 * j + 5, 51 + 8 * j + 6, 51 + 8 * j + 7, 22, 6, 9, 10, 11] (51 + 8 * j + 8))) = r → Q (W_PX pq0 pq1 pq2 pq3 pq4 pq5 pq6 pq7 pq8 pq9 lc fo rn rl rp td_ br_ yn yl yp xk sq oq rs rm rd ro tm sk_ wd_ ys ym yd yo lx pr be ts) r → Q2 (W_AK td_ br_ lc fo rn rl rp t.1 t.2.1 sk_ wd_ tm t.2.2.1 t.2.2.2.1 t.2.2.2.2.1 t.2.2.2.2.2.1 t.2.2.2.2.2.2.1 t.2.2.2.2.2.2.2.1 t.2.2.2.2.2.2.2.2 t.1.toNat t.2.1.toNat) r) → CT false y d args (W_AK td br lc fo rn rl rp t.1 t.2.1 sk wd tm t.2.2.1 t.2.2.2.1 t.2.2.2.2.1 t.2.2.2.2.2.1 t.2.2.2.2.2.2.1 t.2.2.2.2.2.2.2.1 t.2.2.2.2.2.2.2.2 t.1.toNat t.2.1.toNat) 0 0 Q2) (ha2 : as2 = args.map (r_v (sgl [13, 14, 15, 16, 7, 8, 12, 51 + 8 * j, 51 + 8 * j + 1, 51 + 8 * j + 2, 51 + 8 * j + 3, 51 + 8 * j + 4, 51 + 8 * j + 5, 51 + 8 * j + 6, 51 + 8 * j + 7, 22, 6, 9, 10, 11] (51 + 8 * j + 8)))) : CT g y d as2 (W_PX pq0 pq1 pq2 pq3 pq4 pq5 pq6 pq7 pq8 pq9 lc fo rn rl rp td br yn yl yp xk sq oq rs rm rd ro tm sk wd ys ym yd yo lx pr be ts) 0 0 Q := by
  have h_at : ∀ m, m < 8 → (W_PX pq0 pq1 pq2 pq3 pq4 pq5 pq6 pq7 pq8 pq9 lc fo rn rl rp td br yn yl yp xk sq oq rs rm rd ro tm sk wd ys ym yd yo lx pr be ts)[51 + 8 * j + m]? = (tdC (51 + 8 * j) t)[m]? := fun m hm => PX_tx hj hm
  refine CT.subT (cs := [.inr (0, [.ref 1, .ref 3, .int (ii td)]), .inr (8, [.int (ii br), .ref 2]), .inl (0, 51, .inl (ia (sk))), .inl (0, 52, .inl (ia (wd))), .inr (7, [.ref 5, .ref 6, .ref 15, .int (ii lc), .int (ii fo)]), .inr (5, [.ref 16, .int (ii rn), .ref 17, .ref 18, .ref 19, .int (ii rl), .int (ii rp)]), .inl (0, 3, .inl (ia (tm)))]) (T := [.inr (10, [.ref 8, .ref 9, .ref 10, .ref 11, .ref 12, .ref 13, .ref 14, .int (ii (t.1)), .int (ii (t.2.1))]), .inl (0, (t.1.toNat), .inl (ia ((t.2.2.1)))), .inl (0, (t.1.toNat), .inl (ia ((t.2.2.2.1)))), .inl (0, (t.1.toNat), .inl (ia ((t.2.2.2.2.1)))), .inl (0, (t.1.toNat), .inl (ia ((t.2.2.2.2.2.1)))), .inl (0, (t.1.toNat), .inl (ia ((t.2.2.2.2.2.2.1)))), .inl (0, (t.2.1.toNat), .inl (ia ((t.2.2.2.2.2.2.2.1)))), .inl (0, (t.2.1.toNat), .inl (ia ((t.2.2.2.2.2.2.2.2))))]) (sgl [13, 14, 15, 16, 7, 8, 12, 51 + 8 * j, 51 + 8 * j + 1, 51 + 8 * j + 2, 51 + 8 * j + 3, 51 + 8 * j + 4, 51 + 8 * j + 5, 51 + 8 * j + 6, 51 + 8 * j + 7, 22, 6, 9, 10, 11] (51 + 8 * j + 8)) (sgl_inj ?_ ?_) ?_ ?_ ha2 (h _ (fun td_ br_ sk_ wd_ r hr hq => ⟨[.inr (0, [.ref 1, .ref 3, .int (ii td_)]), .inr (8, [.int (ii br_), .ref 2]), .inl (0, 51, .inl (ia (sk_))), .inl (0, 52, .inl (ia (wd_))), .inr (7, [.ref 5, .ref 6, .ref 15, .int (ii lc), .int (ii fo)]), .inr (5, [.ref 16, .int (ii rn), .ref 17, .ref 18, .ref 19, .int (ii rl), .int (ii rp)]), .inl (0, 3, .inl (ia (tm)))], rfl, rfl, by rw [hr]; exact hq⟩))
  · simp only [List.nodup_cons, List.mem_cons, List.not_mem_nil, or_false, not_or, List.nodup_nil, and_true, not_false_eq_true]
    omega
  · simp only [List.mem_cons, List.not_mem_nil, or_false]
    omega
  · exact Emb.cons rfl (Emb.cons rfl (Emb.cons rfl (Emb.cons rfl (Emb.cons rfl (Emb.cons rfl (Emb.cons rfl (Emb.nil)))))))
  · exact (Emb.cons (h_at 0 (by decide)) (Emb.cons (h_at 1 (by decide)) (Emb.cons (h_at 2 (by decide)) (Emb.cons (h_at 3 (by decide)) (Emb.cons (h_at 4 (by decide)) (Emb.cons (h_at 5 (by decide)) (Emb.cons (h_at 6 (by decide)) (Emb.cons (h_at 7 (by decide)) Emb.nil))))))))
theorem t_PX_isBarred {g : Bool} {d : Nat} {Q : List xM → Option Value → Prop} {pq0 pq1 pq2 pq3 pq4 pq5 pq6 pq7 pq8 pq9 lc fo rn rl rp td br yn yl yp : Int} {xk sq oq rs rm rd ro tm sk wd ys ym yd yo : Int → Int} {lx : Nat → Option Nat} {pr be : Int → Int → Int} {ts : List TD} {K : Int → Int} (hn_ : rn = K 0) (ht0 : tm 0 = K 21) (ht2 : tm 2 = K 23) {lv : Value} (hLV : LV K 51 ts lv) {s p : Int} (s0 : 0 ≤ s) (s1 : s ≤ 11) (p0 : 0 ≤ p) (p1 : p ≤ 20) (ht : tl K 4 s p 0 = 1 → ∀ tdz brz skz wdz, Q (W_PX pq0 pq1 pq2 pq3 pq4 pq5 pq6 pq7 pq8 pq9 lc fo rn rl rp tdz brz yn yl yp xk sq oq rs rm rd ro tm skz wdz ys ym yd yo lx pr be ts) (some (.int (ii 1)))) (hf : ¬ tl K 4 s p 0 = 1 → ∀ tdz brz skz wdz, Q (W_PX pq0 pq1 pq2 pq3 pq4 pq5 pq6 pq7 pq8 pq9 lc fo rn rl rp tdz brz yn yl yp xk sq oq rs rm rd ro tm skz wdz ys ym yd yo lx pr be ts) (some (.int (ii 0)))) : CT g m_Ask_isBarred (d + 3) [.ref 13, .ref 7, lv, .int (ii s), .int (ii p)] (W_PX pq0 pq1 pq2 pq3 pq4 pq5 pq6 pq7 pq8 pq9 lc fo rn rl rp td br yn yl yp xk sq oq rs rm rd ro tm sk wd ys ym yd yo lx pr be ts) 0 0 Q := by
  rcases hLV with ⟨rfl, hz⟩ | ⟨j, t, rfl, hj, hB, hLR⟩
  · exact n_Ask_isBarred (hf (by rw [tl_no hz]; decide) _ _ _ _)
  · obtain ⟨hb1, hb2, hb3, hb4⟩ := hB
    obtain ⟨tv, fv, fb, hev, hfn, hbr_, ham⟩ := hLR s p wd s0 s1 p0 p1
    rw [← hn_, ← ht0, ← ht2] at hev
    refine E_PX_AK hj (fun Q2 kz => t_Ask_isBarred (by omega) (by omega) (by omega) hb3 (by omega) (by omega) (by omega) (by omega) hev (fun c c0 c1 => by have := hb4 c c0 c1; omega) (fun hx tdz brz skz => kz _ _ _ _ _ rfl (ht (hbr_.mp hx) _ _ _ _)) (fun hx tdz brz skz => kz _ _ _ _ _ rfl (hf (fun q => hx (hbr_.mpr q)) _ _ _ _))) rfl
theorem t_PX_amount {g : Bool} {d : Nat} {Q : List xM → Option Value → Prop} {pq0 pq1 pq2 pq3 pq4 pq5 pq6 pq7 pq8 pq9 lc fo rn rl rp td br yn yl yp : Int} {xk sq oq rs rm rd ro tm sk wd ys ym yd yo : Int → Int} {lx : Nat → Option Nat} {pr be : Int → Int → Int} {ts : List TD} {K : Int → Int} (hn_ : rn = K 0) (ht0 : tm 0 = K 21) (ht2 : tm 2 = K 23) {lv : Value} (hLV : LV K 51 ts lv) {what s p : Int} (w0 : 0 ≤ what) (w1 : what ≤ 2) (s0 : 0 ≤ s) (s1 : s ≤ 11) (p0 : 0 ≤ p) (p1 : p ≤ 20) (hQ : ∀ tdz brz skz wdz, Q (W_PX pq0 pq1 pq2 pq3 pq4 pq5 pq6 pq7 pq8 pq9 lc fo rn rl rp tdz brz yn yl yp xk sq oq rs rm rd ro tm skz wdz ys ym yd yo lx pr be ts) (some (.int (ii (tl K (what + 1) s p 1))))) : CT g m_Ask_amount (d + 3) [.ref 13, .ref 7, lv, .int (ii what), .int (ii s), .int (ii p)] (W_PX pq0 pq1 pq2 pq3 pq4 pq5 pq6 pq7 pq8 pq9 lc fo rn rl rp td br yn yl yp xk sq oq rs rm rd ro tm sk wd ys ym yd yo lx pr be ts) 0 0 Q := by
  rcases hLV with ⟨rfl, hz⟩ | ⟨j, t, rfl, hj, hB, hLR⟩
  · rw [tl_no hz] at hQ
    exact n_Ask_amount (hQ _ _ _ _)
  · obtain ⟨hb1, hb2, hb3, hb4⟩ := hB
    obtain ⟨tv, fv, fb, hev, hfn, hbr_, ham⟩ := hLR s p wd s0 s1 p0 p1
    rw [← hn_, ← ht0, ← ht2] at hev
    rw [← ham what w0 w1] at hQ
    refine E_PX_AK hj (fun Q2 kz => t_Ask_amount (by omega) (by omega) (by omega) hb3 (by omega) (by omega) (by omega) (by omega) (by omega) hev (fun c c0 c1 => by have := hb4 c c0 c1; omega) (fun c c0 c1 ce => hfn c c0 c1 (by omega)) (fun tdz brz skz => kz _ _ _ _ _ rfl (hQ _ _ _ _))) rfl
theorem t_PX_lawOf {g : Bool} {d : Nat} {Q : List xM → Option Value → Prop} {pq0 pq1 pq2 pq3 pq4 pq5 pq6 pq7 pq8 pq9 lc fo rn rl rp td br yn yl yp : Int} {xk sq oq rs rm rd ro tm sk wd ys ym yd yo : Int → Int} {lx : Nat → Option Nat} {pr be : Int → Int → Int} {ts : List TD} {K : Int → Int} (hS : SI K lc fo rn rl rp rs rm rd tm) (hX : LX K lx ts) (hQ : ∀ lv, LV K 51 ts lv → Q (W_PX pq0 pq1 pq2 pq3 pq4 pq5 pq6 pq7 pq8 pq9 lc fo rn rl rp td br yn yl yp xk sq oq rs rm rd ro tm sk wd ys ym yd yo lx pr be ts) (some lv)) : CT g m_Sta_lawOf d [.ref 7, .int (ii fo)] (W_PX pq0 pq1 pq2 pq3 pq4 pq5 pq6 pq7 pq8 pq9 lc fo rn rl rp td br yn yl yp xk sq oq rs rm rd ro tm sk wd ys ym yd yo lx pr be ts) 0 0 Q := by
  refine CT.of (by decide) (Nat.le_of_ble_eq_true rfl) ?_
  show SJ _ _ _ _ [some (.ref 7), some (.int (ii fo))] [] _ _ _ _
  obtain ⟨hR, hKR, htm0, htm1, htm2, hlc, hfo⟩ := id hS
  obtain ⟨hrn, ⟨hn0, hn1⟩, hrs, hrp, hpu⟩ := id hR
  obtain ⟨⟨kn0, kn1⟩, kns, ⟨kp0, kp1⟩, ⟨kd0, kd1⟩, ⟨km0, km1⟩, ⟨kt0, kt1⟩, ⟨kf0, kf1⟩⟩ := id hKR
  refine j_iload_n d_Sta_lawOf_0 rfl ?_
  refine z_if_lt (t := 21) d_Sta_lawOf_1 (by decide) (by first | omega | exact hw _ | exact hx _ _ | assumption) (fun h1 => ?_) (fun h1 => ?_)
  · refine j_null d_Sta_lawOf_21 ?_
    exact j_areturn rfl (Or.inl ⟨_, rfl⟩) (Or.inl rfl) d_Sta_lawOf_22 (hQ _ (Or.inl ⟨rfl, by omega⟩))
  · refine j_iload_n d_Sta_lawOf_4 rfl ?_
    refine j_aload_n d_Sta_lawOf_5 rfl ?_
    refine gf_PX_7_3 f_Sta_28 d_Sta_lawOf_6 ?_
    refine z_icmp_ge (t := 21) d_Sta_lawOf_9 (by decide) (by first | omega | exact hw _ | exact hx _ _ | assumption) (by first | omega | exact hw _ | exact hx _ _ | assumption) (fun h9 => ?_) (fun h9 => ?_)
    · refine j_null d_Sta_lawOf_21 ?_
      exact j_areturn rfl (Or.inl ⟨_, rfl⟩) (Or.inl rfl) d_Sta_lawOf_22 (hQ _ (Or.inl ⟨rfl, by omega⟩))
    · refine j_aload_n d_Sta_lawOf_12 rfl ?_
      refine gf_PX_7_2 f_Sta_24 d_Sta_lawOf_13 ?_
      refine j_iload_n d_Sta_lawOf_16 rfl ?_
      refine z_aald d_Sta_lawOf_17 rfl (by decide) (by omega) (by omega) (by omega) ?_
      refine j_goto (t := 22) d_Sta_lawOf_18 (by decide) ?_
      obtain ⟨j, t, e1, e2, e3⟩ := hX (by omega)
      rw [← hfo] at e1
      rw [show lwR 51 lx fo.toNat = some (51 + 8 * j) by unfold lwR; rw [e1]; rfl]
      exact j_areturn rfl (Or.inl ⟨_, rfl⟩) (Or.inr ⟨_, rfl⟩) d_Sta_lawOf_22 (hQ _ (Or.inr ⟨j, t, rfl, e2, e3⟩))
theorem t_PX_lawOf2 {g : Bool} {d : Nat} {Q : List xM → Option Value → Prop} {pq0 pq1 pq2 pq3 pq4 pq5 pq6 pq7 pq8 pq9 lc fo rn rl rp td br yn yl yp : Int} {xk sq oq rs rm rd ro tm sk wd ys ym yd yo : Int → Int} {lx : Nat → Option Nat} {pr be : Int → Int → Int} {ts : List TD} {K : Int → Int} (hS : SI K lc fo rn rl rp rs rm rd tm) (hX : LX K lx ts) (hN : LV K 51 ts .null → Q (W_PX pq0 pq1 pq2 pq3 pq4 pq5 pq6 pq7 pq8 pq9 lc fo rn rl rp td br yn yl yp xk sq oq rs rm rd ro tm sk wd ys ym yd yo lx pr be ts) (some .null)) (hR_ : ∀ aw, LV K 51 ts (.ref aw) → Q (W_PX pq0 pq1 pq2 pq3 pq4 pq5 pq6 pq7 pq8 pq9 lc fo rn rl rp td br yn yl yp xk sq oq rs rm rd ro tm sk wd ys ym yd yo lx pr be ts) (some (.ref aw))) : CT g m_Sta_lawOf d [.ref 7, .int (ii fo)] (W_PX pq0 pq1 pq2 pq3 pq4 pq5 pq6 pq7 pq8 pq9 lc fo rn rl rp td br yn yl yp xk sq oq rs rm rd ro tm sk wd ys ym yd yo lx pr be ts) 0 0 Q :=
  t_PX_lawOf hS hX (fun lv hLV => by
    rcases hLV.or with rfl | ⟨aw, rfl⟩
    · exact hN hLV
    · exact hR_ aw hLV)
theorem lp_pri1N {g : Bool} {d : Nat} {Q : List xM → Option Value → Prop} {pq0 pq1 pq2 pq3 pq4 pq5 pq6 pq7 pq8 pq9 lc fo rn rl rp yn yl yp : Int} {xk sq oq rs rm rd ro tm ys ym yd yo : Int → Int} {lx : Nat → Option Nat} {be : Int → Int → Int} {ts : List TD} {K : Int → Int} (hn_ : rn = K 0) (ht0 : tm 0 = K 21) (ht2 : tm 2 = K 23) (hLV : LV K 51 ts (.null)) (n0_ : 0 ≤ rn) (n1_ : rn ≤ 20) {s_ : Int} (s0_ : 0 ≤ s_) (s1_ : s_ < 6) (hkk : ∀ td br sk wd pr, (∀ s q, 0 ≤ s → s < s_ + 1 → 0 ≤ q → q ≤ rn → pr s q = pB K s q) → SJ g m_Pap_priceAll (d + 4) 71 [some (.ref 0), some (.ref 7), some (.null), some (.int (ii s_)), none] [] (W_PX pq0 pq1 pq2 pq3 pq4 pq5 pq6 pq7 pq8 pq9 lc fo rn rl rp td br yn yl yp xk sq oq rs rm rd ro tm sk wd ys ym yd yo lx pr be ts) 0 0 Q) : ∀ (nn : Nat) (p : Int) (td : Int) (br : Int) (sk : Int → Int) (wd : Int → Int) (pr : Int → Int → Int), (rn + 1 - p).toNat = nn → 0 ≤ p → p ≤ rn + 1 → (∀ s q, 0 ≤ s → s < s_ → 0 ≤ q → q ≤ rn → pr s q = pB K s q) → (∀ q, 0 ≤ q → q < p → pr s_ q = pB K s_ q) → SJ g m_Pap_priceAll (d + 4) 11 [some (.ref 0), some (.ref 7), some (.null), some (.int (ii (s_))), some (.int (ii p))] [] (W_PX pq0 pq1 pq2 pq3 pq4 pq5 pq6 pq7 pq8 pq9 lc fo rn rl rp td br yn yl yp xk sq oq rs rm rd ro tm sk wd ys ym yd yo lx pr be ts) 0 0 Q := by
  intro nn
  induction nn using Nat.strongRecOn with
  | ind nn ih =>
  intro p td br sk wd pr hn p0 p1 hA hB
  refine j_iload d_Pap_priceAll_11 rfl ?_
  refine j_aload_n d_Pap_priceAll_13 rfl ?_
  refine gf_PX_7_0 f_Pap_72 d_Pap_priceAll_14 ?_
  refine gf_PX_8_1 f_Pap_77 d_Pap_priceAll_17 ?_
  refine z_icmp_gt (t := 71) d_Pap_priceAll_20 (by decide) (by first | omega | exact hw _ | exact hx _ _ | assumption) (by first | omega | exact hw _ | exact hx _ _ | assumption) (fun h20 => ?_) (fun h20 => ?_)
  · refine SJ.mask [true, true, true, true, false] ?_
    show SJ _ _ _ _ [_, _, _, _, none] _ _ _ _ _
    exact hkk _ _ _ _ _ (fun s q s0 s1 q0 q1 => by
      by_cases e : s = s_
      · rw [e]; exact hB q q0 (by omega)
      · exact hA s q s0 (by omega) q0 q1)
  · refine j_aload_n d_Pap_priceAll_23 rfl ?_
    refine gf_PX_0_13 f_Pap_55 d_Pap_priceAll_24 ?_
    refine j_iload_n d_Pap_priceAll_27 rfl ?_
    refine z_aald d_Pap_priceAll_28 rfl (by decide) (by omega) (by omega) (by omega) ?_
    refine j_iload d_Pap_priceAll_29 rfl ?_
    refine j_aload_n d_Pap_priceAll_31 rfl ?_
    refine gf_PX_0_11 f_Pap_68 d_Pap_priceAll_32 ?_
    refine j_aload_n d_Pap_priceAll_35 rfl ?_
    refine j_aload_nV d_Pap_priceAll_36 rfl (LV.or hLV) ?_
    refine j_iload_n d_Pap_priceAll_37 rfl ?_
    refine j_iload d_Pap_priceAll_38 rfl ?_
    refine v_call4 d_Pap_priceAll_40 c_Pap_80 rfl ⟨_, rfl, rfl⟩ (Nat.le_of_ble_eq_true rfl) (t_PX_isBarred hn_ ht0 ht2 hLV (by omega) (by omega) (by omega) (by omega) (fun h40 tdz brz skz wdz => ?_) (fun h40 tdz brz skz wdz => ?_))
    · refine z_if_eq (t := 51) d_Pap_priceAll_43 (by decide) (by first | omega | exact hw _ | exact hx _ _ | assumption) (fun h => absurd h (by decide)) (fun _ => ?_)
      refine z_ldc (w := 100000000) d_Pap_priceAll_46 k_Pap_86 (by decide) ?_
      refine j_goto (t := 64) d_Pap_priceAll_48 (by decide) ?_
      refine z_iast d_Pap_priceAll_64 (PX_pr (by omega) (by omega)) (by omega) (by omega) (by omega) ?_
      rw [PX_prs (by omega) (by omega)]
      refine z_iinc d_Pap_priceAll_65 rfl (by decide) ?_
      show SJ _ _ _ _ [_, _, _, _, _] _ _ _ _ _
      refine j_goto (t := 11) d_Pap_priceAll_68 (by decide) ?_
      refine ih _ (by omega) (p + 1) _ _ _ _ _ rfl (by omega) (by omega) (fun s q s0 s1 q0 q1 => ?_) (fun q q0 q1 => ?_)
      · rw [upR_ne (by omega)]; exact hA s q s0 s1 q0 q1
      · rw [upR_eq]
        by_cases e : q = p
        · rw [e, up_eq]
          unfold pB
          first
          | rw [if_pos h40]
          | (rw [if_neg h40, Int.zero_add])
        · rw [up_ne e]; exact hB q q0 (by omega)
    · refine z_if_eq (t := 51) d_Pap_priceAll_43 (by decide) (by first | omega | exact hw _ | exact hx _ _ | assumption) (fun _ => ?_) (fun h => absurd h (by decide))
      refine j_aload_n d_Pap_priceAll_51 rfl ?_
      refine gf_PX_0_11 f_Pap_68 d_Pap_priceAll_52 ?_
      refine j_aload_n d_Pap_priceAll_55 rfl ?_
      refine j_aload_nV d_Pap_priceAll_56 rfl (LV.or hLV) ?_
      refine z_iconst d_Pap_priceAll_57 ?_
      refine j_iload_n d_Pap_priceAll_58 rfl ?_
      refine j_iload d_Pap_priceAll_59 rfl ?_
      refine v_call5 d_Pap_priceAll_61 c_Pap_87 rfl ⟨_, rfl, rfl⟩ (Nat.le_of_ble_eq_true rfl) (t_PX_amount hn_ ht0 ht2 hLV (by omega) (by omega) (by omega) (by omega) (by omega) (by omega) (fun td2 br2 sk2 wd2 => ?_))
      refine z_iast d_Pap_priceAll_64 (PX_pr (by omega) (by omega)) (by omega) (by omega) (by omega) ?_
      rw [PX_prs (by omega) (by omega)]
      refine z_iinc d_Pap_priceAll_65 rfl (by decide) ?_
      show SJ _ _ _ _ [_, _, _, _, _] _ _ _ _ _
      refine j_goto (t := 11) d_Pap_priceAll_68 (by decide) ?_
      refine ih _ (by omega) (p + 1) _ _ _ _ _ rfl (by omega) (by omega) (fun s q s0 s1 q0 q1 => ?_) (fun q q0 q1 => ?_)
      · rw [upR_ne (by omega)]; exact hA s q s0 s1 q0 q1
      · rw [upR_eq]
        by_cases e : q = p
        · rw [e, up_eq]
          unfold pB
          first
          | rw [if_pos h40]
          | (rw [if_neg h40, Int.zero_add])
        · rw [up_ne e]; exact hB q q0 (by omega)
theorem lp_pri2N {g : Bool} {d : Nat} {Q : List xM → Option Value → Prop} {pq0 pq1 pq2 pq3 pq4 pq5 pq6 pq7 pq8 pq9 lc fo rn rl rp yn yl yp : Int} {xk sq oq rs rm rd ro tm ys ym yd yo : Int → Int} {lx : Nat → Option Nat} {be : Int → Int → Int} {ts : List TD} {K : Int → Int} (hn_ : rn = K 0) (ht0 : tm 0 = K 21) (ht2 : tm 2 = K 23) (hLV : LV K 51 ts (.null)) (n0_ : 0 ≤ rn) (n1_ : rn ≤ 20) (hQ : ∀ td br sk wd pr, (∀ s q, 0 ≤ s → s < 6 → 0 ≤ q → q ≤ rn → pr s q = pB K s q) → Q (W_PX pq0 pq1 pq2 pq3 pq4 pq5 pq6 pq7 pq8 pq9 lc fo rn rl rp td br yn yl yp xk sq oq rs rm rd ro tm sk wd ys ym yd yo lx pr be ts) none) : ∀ (nn : Nat) (s_ : Int) (td : Int) (br : Int) (sk : Int → Int) (wd : Int → Int) (pr : Int → Int → Int), (6 - s_).toNat = nn → 0 ≤ s_ → s_ ≤ 6 → (∀ s q, 0 ≤ s → s < s_ → 0 ≤ q → q ≤ rn → pr s q = pB K s q) → SJ g m_Pap_priceAll (d + 4) 2 [some (.ref 0), some (.ref 7), some (.null), some (.int (ii (s_))), none] [] (W_PX pq0 pq1 pq2 pq3 pq4 pq5 pq6 pq7 pq8 pq9 lc fo rn rl rp td br yn yl yp xk sq oq rs rm rd ro tm sk wd ys ym yd yo lx pr be ts) 0 0 Q := by
  intro nn
  induction nn using Nat.strongRecOn with
  | ind nn ih =>
  intro s_ td br sk wd pr hn s0_ s1_ hA
  refine j_iload_n d_Pap_priceAll_2 rfl ?_
  refine z_bipush d_Pap_priceAll_3 (by decide) ?_
  refine z_icmp_ge (t := 77) d_Pap_priceAll_5 (by decide) (by first | omega | exact hw _ | exact hx _ _ | assumption) (by first | omega | exact hw _ | exact hx _ _ | assumption) (fun h5 => ?_) (fun h5 => ?_)
  · exact j_return rfl d_Pap_priceAll_77 (hQ _ _ _ _ _ (fun s q s0 s1 q0 q1 => hA s q s0 (by omega) q0 q1))
  · refine z_iconst d_Pap_priceAll_8 ?_
    refine j_istore d_Pap_priceAll_9 (by decide) ?_
    show SJ _ _ _ _ [_, _, _, _, _] _ _ _ _ _
    refine lp_pri1N hn_ ht0 ht2 hLV n0_ n1_ s0_ (by omega) (fun td br sk wd pr hp => ?_) _ 0 _ _ _ _ _ rfl (by omega) (by omega) hA (fun q q0 q1 => by omega)
    refine z_iinc d_Pap_priceAll_71 rfl (by decide) ?_
    show SJ _ _ _ _ [_, _, _, _, _] _ _ _ _ _
    refine j_goto (t := 2) d_Pap_priceAll_74 (by decide) ?_
    exact ih _ (by omega) (s_ + 1) _ _ _ _ _ rfl (by omega) (by omega) hp
theorem t_Pap_priceAllN {g : Bool} {d : Nat} {Q : List xM → Option Value → Prop} {pq0 pq1 pq2 pq3 pq4 pq5 pq6 pq7 pq8 pq9 lc fo rn rl rp td br yn yl yp : Int} {xk sq oq rs rm rd ro tm sk wd ys ym yd yo : Int → Int} {lx : Nat → Option Nat} {pr be : Int → Int → Int} {ts : List TD} {K : Int → Int} (hn_ : rn = K 0) (ht0 : tm 0 = K 21) (ht2 : tm 2 = K 23) (hLV : LV K 51 ts (.null)) (n0_ : 0 ≤ rn) (n1_ : rn ≤ 20) (hQ : ∀ td br sk wd pr, (∀ s q, 0 ≤ s → s < 6 → 0 ≤ q → q ≤ rn → pr s q = pB K s q) → Q (W_PX pq0 pq1 pq2 pq3 pq4 pq5 pq6 pq7 pq8 pq9 lc fo rn rl rp td br yn yl yp xk sq oq rs rm rd ro tm sk wd ys ym yd yo lx pr be ts) none) : CT g m_Pap_priceAll (d + 4) [.ref 0, .ref 7, .null] (W_PX pq0 pq1 pq2 pq3 pq4 pq5 pq6 pq7 pq8 pq9 lc fo rn rl rp td br yn yl yp xk sq oq rs rm rd ro tm sk wd ys ym yd yo lx pr be ts) 0 0 Q := by
  refine CT.of (by decide) (Nat.le_of_ble_eq_true rfl) ?_
  show SJ _ _ _ _ [some (.ref 0), some (.ref 7), some (.null), none, none] [] _ _ _ _
  refine z_iconst d_Pap_priceAll_0 ?_
  refine j_istore_n d_Pap_priceAll_1 (by decide) ?_
  try rw [x_s1_V (i := 3) rfl (LV.cat hLV)]
  show SJ _ _ _ _ [_, _, _, _, _] _ _ _ _ _
  exact lp_pri2N hn_ ht0 ht2 hLV n0_ n1_ hQ _ 0 _ _ _ _ _ rfl (by omega) (by omega) (fun s q s0 s1 q0 q1 => by omega)
theorem lp_stkN {g : Bool} {d : Nat} {Q : List xM → Option Value → Prop} {pq0 pq1 pq2 pq3 pq4 pq5 pq6 pq7 pq8 pq9 lc fo rn rl rp yn yl yp : Int} {xk oq rs rm rd ro tm ys ym yd yo : Int → Int} {lx : Nat → Option Nat} {pr be : Int → Int → Int} {ts : List TD} {K : Int → Int} (hn_ : rn = K 0) (ht0 : tm 0 = K 21) (ht2 : tm 2 = K 23) (hLV : LV K 51 ts (.null)) (n0_ : 0 ≤ rn) (n1_ : rn ≤ 20) (hs : ∀ j, 0 ≤ j → j < rn → 0 ≤ rs j ∧ rs j ≤ 11) {what : Int} (w0_ : 0 ≤ what) (w1_ : what ≤ 2) (hQ : ∀ td br sk wd sq, (∀ q, 0 ≤ q → q < rn → sq q = tl K (what + 1) (rs q) q 1) → Q (W_PX pq0 pq1 pq2 pq3 pq4 pq5 pq6 pq7 pq8 pq9 lc fo rn rl rp td br yn yl yp xk sq oq rs rm rd ro tm sk wd ys ym yd yo lx pr be ts) none) : ∀ (nn : Nat) (p : Int) (td : Int) (br : Int) (sk : Int → Int) (wd : Int → Int) (sq : Int → Int), (rn - p).toNat = nn → 0 ≤ p → p ≤ rn → (∀ q, 0 ≤ q → q < p → sq q = tl K (what + 1) (rs q) q 1) → SJ g m_Pap_stakeAll (d + 4) 12 [some (.ref 0), some (.ref 7), some (.int (ii what)), some (.null), some (.int (ii p))] [] (W_PX pq0 pq1 pq2 pq3 pq4 pq5 pq6 pq7 pq8 pq9 lc fo rn rl rp td br yn yl yp xk sq oq rs rm rd ro tm sk wd ys ym yd yo lx pr be ts) 0 0 Q := by
  intro nn
  induction nn using Nat.strongRecOn with
  | ind nn ih =>
  intro p td br sk wd sq hn p0 p1 hA
  refine j_iload d_Pap_stakeAll_12 rfl ?_
  refine j_aload_n d_Pap_stakeAll_14 rfl ?_
  refine gf_PX_7_0 f_Pap_72 d_Pap_stakeAll_15 ?_
  refine gf_PX_8_1 f_Pap_77 d_Pap_stakeAll_18 ?_
  refine z_icmp_ge (t := 59) d_Pap_stakeAll_21 (by decide) (by first | omega | exact hw _ | exact hx _ _ | assumption) (by first | omega | exact hw _ | exact hx _ _ | assumption) (fun h21 => ?_) (fun h21 => ?_)
  · exact j_return rfl d_Pap_stakeAll_59 (hQ _ _ _ _ _ (fun q q0 q1 => hA q q0 (by omega)))
  · have hsp := hs p (by omega) (by omega)
    refine j_aload_n d_Pap_stakeAll_24 rfl ?_
    refine gf_PX_0_15 f_Pap_61 d_Pap_stakeAll_25 ?_
    refine j_iload d_Pap_stakeAll_28 rfl ?_
    refine j_aload_n d_Pap_stakeAll_30 rfl ?_
    refine gf_PX_0_11 f_Pap_68 d_Pap_stakeAll_31 ?_
    refine j_aload_n d_Pap_stakeAll_34 rfl ?_
    refine j_aload_nV d_Pap_stakeAll_35 rfl (LV.or hLV) ?_
    refine j_iload_n d_Pap_stakeAll_36 rfl ?_
    refine j_aload_n d_Pap_stakeAll_37 rfl ?_
    refine gf_PX_7_0 f_Pap_72 d_Pap_stakeAll_38 ?_
    refine gf_PX_8_0 f_Pap_98 d_Pap_stakeAll_41 ?_
    refine j_iload d_Pap_stakeAll_44 rfl ?_
    refine al_PX_6 d_Pap_stakeAll_46 (by omega) (by omega) ?_
    refine j_iload d_Pap_stakeAll_47 rfl ?_
    refine v_call5 d_Pap_stakeAll_49 c_Pap_87 rfl ⟨_, rfl, rfl⟩ (Nat.le_of_ble_eq_true rfl) (t_PX_amount hn_ ht0 ht2 hLV (by omega) (by omega) (by omega) (by omega) (by omega) (by omega) (fun td2 br2 sk2 wd2 => ?_))
    refine as_PX_2 d_Pap_stakeAll_52 (by omega) (by omega) ?_
    refine z_iinc d_Pap_stakeAll_53 rfl (by decide) ?_
    try rw [x_s1_V (i := 4) rfl (LV.cat hLV)]
    show SJ _ _ _ _ [_, _, _, _, _] _ _ _ _ _
    refine j_goto (t := 12) d_Pap_stakeAll_56 (by decide) ?_
    refine ih _ (by omega) (p + 1) _ _ _ _ _ rfl (by omega) (by omega) (fun q q0 q1 => ?_)
    by_cases e : q = p
    · rw [e, up_eq]
    · rw [up_ne e]; exact hA q q0 (by omega)
theorem lp_pri1R {g : Bool} {d : Nat} {Q : List xM → Option Value → Prop} {pq0 pq1 pq2 pq3 pq4 pq5 pq6 pq7 pq8 pq9 lc fo rn rl rp yn yl yp : Int} {xk sq oq rs rm rd ro tm ys ym yd yo : Int → Int} {lx : Nat → Option Nat} {be : Int → Int → Int} {ts : List TD} {K : Int → Int} (hn_ : rn = K 0) (ht0 : tm 0 = K 21) (ht2 : tm 2 = K 23) {aw : Nat} (hLV : LV K 51 ts (.ref aw)) (n0_ : 0 ≤ rn) (n1_ : rn ≤ 20) {s_ : Int} (s0_ : 0 ≤ s_) (s1_ : s_ < 6) (hkk : ∀ td br sk wd pr, (∀ s q, 0 ≤ s → s < s_ + 1 → 0 ≤ q → q ≤ rn → pr s q = pB K s q) → SJ g m_Pap_priceAll (d + 4) 71 [some (.ref 0), some (.ref 7), some (.ref aw), some (.int (ii s_)), none] [] (W_PX pq0 pq1 pq2 pq3 pq4 pq5 pq6 pq7 pq8 pq9 lc fo rn rl rp td br yn yl yp xk sq oq rs rm rd ro tm sk wd ys ym yd yo lx pr be ts) 0 0 Q) : ∀ (nn : Nat) (p : Int) (td : Int) (br : Int) (sk : Int → Int) (wd : Int → Int) (pr : Int → Int → Int), (rn + 1 - p).toNat = nn → 0 ≤ p → p ≤ rn + 1 → (∀ s q, 0 ≤ s → s < s_ → 0 ≤ q → q ≤ rn → pr s q = pB K s q) → (∀ q, 0 ≤ q → q < p → pr s_ q = pB K s_ q) → SJ g m_Pap_priceAll (d + 4) 11 [some (.ref 0), some (.ref 7), some (.ref aw), some (.int (ii (s_))), some (.int (ii p))] [] (W_PX pq0 pq1 pq2 pq3 pq4 pq5 pq6 pq7 pq8 pq9 lc fo rn rl rp td br yn yl yp xk sq oq rs rm rd ro tm sk wd ys ym yd yo lx pr be ts) 0 0 Q := by
  intro nn
  induction nn using Nat.strongRecOn with
  | ind nn ih =>
  intro p td br sk wd pr hn p0 p1 hA hB
  refine j_iload d_Pap_priceAll_11 rfl ?_
  refine j_aload_n d_Pap_priceAll_13 rfl ?_
  refine gf_PX_7_0 f_Pap_72 d_Pap_priceAll_14 ?_
  refine gf_PX_8_1 f_Pap_77 d_Pap_priceAll_17 ?_
  refine z_icmp_gt (t := 71) d_Pap_priceAll_20 (by decide) (by first | omega | exact hw _ | exact hx _ _ | assumption) (by first | omega | exact hw _ | exact hx _ _ | assumption) (fun h20 => ?_) (fun h20 => ?_)
  · refine SJ.mask [true, true, true, true, false] ?_
    show SJ _ _ _ _ [_, _, _, _, none] _ _ _ _ _
    exact hkk _ _ _ _ _ (fun s q s0 s1 q0 q1 => by
      by_cases e : s = s_
      · rw [e]; exact hB q q0 (by omega)
      · exact hA s q s0 (by omega) q0 q1)
  · refine j_aload_n d_Pap_priceAll_23 rfl ?_
    refine gf_PX_0_13 f_Pap_55 d_Pap_priceAll_24 ?_
    refine j_iload_n d_Pap_priceAll_27 rfl ?_
    refine z_aald d_Pap_priceAll_28 rfl (by decide) (by omega) (by omega) (by omega) ?_
    refine j_iload d_Pap_priceAll_29 rfl ?_
    refine j_aload_n d_Pap_priceAll_31 rfl ?_
    refine gf_PX_0_11 f_Pap_68 d_Pap_priceAll_32 ?_
    refine j_aload_n d_Pap_priceAll_35 rfl ?_
    refine j_aload_nV d_Pap_priceAll_36 rfl (LV.or hLV) ?_
    refine j_iload_n d_Pap_priceAll_37 rfl ?_
    refine j_iload d_Pap_priceAll_38 rfl ?_
    refine v_call4 d_Pap_priceAll_40 c_Pap_80 rfl ⟨_, rfl, rfl⟩ (Nat.le_of_ble_eq_true rfl) (t_PX_isBarred hn_ ht0 ht2 hLV (by omega) (by omega) (by omega) (by omega) (fun h40 tdz brz skz wdz => ?_) (fun h40 tdz brz skz wdz => ?_))
    · refine z_if_eq (t := 51) d_Pap_priceAll_43 (by decide) (by first | omega | exact hw _ | exact hx _ _ | assumption) (fun h => absurd h (by decide)) (fun _ => ?_)
      refine z_ldc (w := 100000000) d_Pap_priceAll_46 k_Pap_86 (by decide) ?_
      refine j_goto (t := 64) d_Pap_priceAll_48 (by decide) ?_
      refine z_iast d_Pap_priceAll_64 (PX_pr (by omega) (by omega)) (by omega) (by omega) (by omega) ?_
      rw [PX_prs (by omega) (by omega)]
      refine z_iinc d_Pap_priceAll_65 rfl (by decide) ?_
      show SJ _ _ _ _ [_, _, _, _, _] _ _ _ _ _
      refine j_goto (t := 11) d_Pap_priceAll_68 (by decide) ?_
      refine ih _ (by omega) (p + 1) _ _ _ _ _ rfl (by omega) (by omega) (fun s q s0 s1 q0 q1 => ?_) (fun q q0 q1 => ?_)
      · rw [upR_ne (by omega)]; exact hA s q s0 s1 q0 q1
      · rw [upR_eq]
        by_cases e : q = p
        · rw [e, up_eq]
          unfold pB
          first
          | rw [if_pos h40]
          | (rw [if_neg h40, Int.zero_add])
        · rw [up_ne e]; exact hB q q0 (by omega)
    · refine z_if_eq (t := 51) d_Pap_priceAll_43 (by decide) (by first | omega | exact hw _ | exact hx _ _ | assumption) (fun _ => ?_) (fun h => absurd h (by decide))
      refine j_aload_n d_Pap_priceAll_51 rfl ?_
      refine gf_PX_0_11 f_Pap_68 d_Pap_priceAll_52 ?_
      refine j_aload_n d_Pap_priceAll_55 rfl ?_
      refine j_aload_nV d_Pap_priceAll_56 rfl (LV.or hLV) ?_
      refine z_iconst d_Pap_priceAll_57 ?_
      refine j_iload_n d_Pap_priceAll_58 rfl ?_
      refine j_iload d_Pap_priceAll_59 rfl ?_
      refine v_call5 d_Pap_priceAll_61 c_Pap_87 rfl ⟨_, rfl, rfl⟩ (Nat.le_of_ble_eq_true rfl) (t_PX_amount hn_ ht0 ht2 hLV (by omega) (by omega) (by omega) (by omega) (by omega) (by omega) (fun td2 br2 sk2 wd2 => ?_))
      refine z_iast d_Pap_priceAll_64 (PX_pr (by omega) (by omega)) (by omega) (by omega) (by omega) ?_
      rw [PX_prs (by omega) (by omega)]
      refine z_iinc d_Pap_priceAll_65 rfl (by decide) ?_
      show SJ _ _ _ _ [_, _, _, _, _] _ _ _ _ _
      refine j_goto (t := 11) d_Pap_priceAll_68 (by decide) ?_
      refine ih _ (by omega) (p + 1) _ _ _ _ _ rfl (by omega) (by omega) (fun s q s0 s1 q0 q1 => ?_) (fun q q0 q1 => ?_)
      · rw [upR_ne (by omega)]; exact hA s q s0 s1 q0 q1
      · rw [upR_eq]
        by_cases e : q = p
        · rw [e, up_eq]
          unfold pB
          first
          | rw [if_pos h40]
          | (rw [if_neg h40, Int.zero_add])
        · rw [up_ne e]; exact hB q q0 (by omega)
theorem lp_pri2R {g : Bool} {d : Nat} {Q : List xM → Option Value → Prop} {pq0 pq1 pq2 pq3 pq4 pq5 pq6 pq7 pq8 pq9 lc fo rn rl rp yn yl yp : Int} {xk sq oq rs rm rd ro tm ys ym yd yo : Int → Int} {lx : Nat → Option Nat} {be : Int → Int → Int} {ts : List TD} {K : Int → Int} (hn_ : rn = K 0) (ht0 : tm 0 = K 21) (ht2 : tm 2 = K 23) {aw : Nat} (hLV : LV K 51 ts (.ref aw)) (n0_ : 0 ≤ rn) (n1_ : rn ≤ 20) (hQ : ∀ td br sk wd pr, (∀ s q, 0 ≤ s → s < 6 → 0 ≤ q → q ≤ rn → pr s q = pB K s q) → Q (W_PX pq0 pq1 pq2 pq3 pq4 pq5 pq6 pq7 pq8 pq9 lc fo rn rl rp td br yn yl yp xk sq oq rs rm rd ro tm sk wd ys ym yd yo lx pr be ts) none) : ∀ (nn : Nat) (s_ : Int) (td : Int) (br : Int) (sk : Int → Int) (wd : Int → Int) (pr : Int → Int → Int), (6 - s_).toNat = nn → 0 ≤ s_ → s_ ≤ 6 → (∀ s q, 0 ≤ s → s < s_ → 0 ≤ q → q ≤ rn → pr s q = pB K s q) → SJ g m_Pap_priceAll (d + 4) 2 [some (.ref 0), some (.ref 7), some (.ref aw), some (.int (ii (s_))), none] [] (W_PX pq0 pq1 pq2 pq3 pq4 pq5 pq6 pq7 pq8 pq9 lc fo rn rl rp td br yn yl yp xk sq oq rs rm rd ro tm sk wd ys ym yd yo lx pr be ts) 0 0 Q := by
  intro nn
  induction nn using Nat.strongRecOn with
  | ind nn ih =>
  intro s_ td br sk wd pr hn s0_ s1_ hA
  refine j_iload_n d_Pap_priceAll_2 rfl ?_
  refine z_bipush d_Pap_priceAll_3 (by decide) ?_
  refine z_icmp_ge (t := 77) d_Pap_priceAll_5 (by decide) (by first | omega | exact hw _ | exact hx _ _ | assumption) (by first | omega | exact hw _ | exact hx _ _ | assumption) (fun h5 => ?_) (fun h5 => ?_)
  · exact j_return rfl d_Pap_priceAll_77 (hQ _ _ _ _ _ (fun s q s0 s1 q0 q1 => hA s q s0 (by omega) q0 q1))
  · refine z_iconst d_Pap_priceAll_8 ?_
    refine j_istore d_Pap_priceAll_9 (by decide) ?_
    show SJ _ _ _ _ [_, _, _, _, _] _ _ _ _ _
    refine lp_pri1R hn_ ht0 ht2 hLV n0_ n1_ s0_ (by omega) (fun td br sk wd pr hp => ?_) _ 0 _ _ _ _ _ rfl (by omega) (by omega) hA (fun q q0 q1 => by omega)
    refine z_iinc d_Pap_priceAll_71 rfl (by decide) ?_
    show SJ _ _ _ _ [_, _, _, _, _] _ _ _ _ _
    refine j_goto (t := 2) d_Pap_priceAll_74 (by decide) ?_
    exact ih _ (by omega) (s_ + 1) _ _ _ _ _ rfl (by omega) (by omega) hp
theorem t_Pap_priceAllR {g : Bool} {d : Nat} {Q : List xM → Option Value → Prop} {pq0 pq1 pq2 pq3 pq4 pq5 pq6 pq7 pq8 pq9 lc fo rn rl rp td br yn yl yp : Int} {xk sq oq rs rm rd ro tm sk wd ys ym yd yo : Int → Int} {lx : Nat → Option Nat} {pr be : Int → Int → Int} {ts : List TD} {K : Int → Int} (hn_ : rn = K 0) (ht0 : tm 0 = K 21) (ht2 : tm 2 = K 23) {aw : Nat} (hLV : LV K 51 ts (.ref aw)) (n0_ : 0 ≤ rn) (n1_ : rn ≤ 20) (hQ : ∀ td br sk wd pr, (∀ s q, 0 ≤ s → s < 6 → 0 ≤ q → q ≤ rn → pr s q = pB K s q) → Q (W_PX pq0 pq1 pq2 pq3 pq4 pq5 pq6 pq7 pq8 pq9 lc fo rn rl rp td br yn yl yp xk sq oq rs rm rd ro tm sk wd ys ym yd yo lx pr be ts) none) : CT g m_Pap_priceAll (d + 4) [.ref 0, .ref 7, .ref aw] (W_PX pq0 pq1 pq2 pq3 pq4 pq5 pq6 pq7 pq8 pq9 lc fo rn rl rp td br yn yl yp xk sq oq rs rm rd ro tm sk wd ys ym yd yo lx pr be ts) 0 0 Q := by
  refine CT.of (by decide) (Nat.le_of_ble_eq_true rfl) ?_
  show SJ _ _ _ _ [some (.ref 0), some (.ref 7), some (.ref aw), none, none] [] _ _ _ _
  refine z_iconst d_Pap_priceAll_0 ?_
  refine j_istore_n d_Pap_priceAll_1 (by decide) ?_
  try rw [x_s1_V (i := 3) rfl (LV.cat hLV)]
  show SJ _ _ _ _ [_, _, _, _, _] _ _ _ _ _
  exact lp_pri2R hn_ ht0 ht2 hLV n0_ n1_ hQ _ 0 _ _ _ _ _ rfl (by omega) (by omega) (fun s q s0 s1 q0 q1 => by omega)
theorem lp_stkR {g : Bool} {d : Nat} {Q : List xM → Option Value → Prop} {pq0 pq1 pq2 pq3 pq4 pq5 pq6 pq7 pq8 pq9 lc fo rn rl rp yn yl yp : Int} {xk oq rs rm rd ro tm ys ym yd yo : Int → Int} {lx : Nat → Option Nat} {pr be : Int → Int → Int} {ts : List TD} {K : Int → Int} (hn_ : rn = K 0) (ht0 : tm 0 = K 21) (ht2 : tm 2 = K 23) {aw : Nat} (hLV : LV K 51 ts (.ref aw)) (n0_ : 0 ≤ rn) (n1_ : rn ≤ 20) (hs : ∀ j, 0 ≤ j → j < rn → 0 ≤ rs j ∧ rs j ≤ 11) {what : Int} (w0_ : 0 ≤ what) (w1_ : what ≤ 2) (hQ : ∀ td br sk wd sq, (∀ q, 0 ≤ q → q < rn → sq q = tl K (what + 1) (rs q) q 1) → Q (W_PX pq0 pq1 pq2 pq3 pq4 pq5 pq6 pq7 pq8 pq9 lc fo rn rl rp td br yn yl yp xk sq oq rs rm rd ro tm sk wd ys ym yd yo lx pr be ts) none) : ∀ (nn : Nat) (p : Int) (td : Int) (br : Int) (sk : Int → Int) (wd : Int → Int) (sq : Int → Int), (rn - p).toNat = nn → 0 ≤ p → p ≤ rn → (∀ q, 0 ≤ q → q < p → sq q = tl K (what + 1) (rs q) q 1) → SJ g m_Pap_stakeAll (d + 4) 12 [some (.ref 0), some (.ref 7), some (.int (ii what)), some (.ref aw), some (.int (ii p))] [] (W_PX pq0 pq1 pq2 pq3 pq4 pq5 pq6 pq7 pq8 pq9 lc fo rn rl rp td br yn yl yp xk sq oq rs rm rd ro tm sk wd ys ym yd yo lx pr be ts) 0 0 Q := by
  intro nn
  induction nn using Nat.strongRecOn with
  | ind nn ih =>
  intro p td br sk wd sq hn p0 p1 hA
  refine j_iload d_Pap_stakeAll_12 rfl ?_
  refine j_aload_n d_Pap_stakeAll_14 rfl ?_
  refine gf_PX_7_0 f_Pap_72 d_Pap_stakeAll_15 ?_
  refine gf_PX_8_1 f_Pap_77 d_Pap_stakeAll_18 ?_
  refine z_icmp_ge (t := 59) d_Pap_stakeAll_21 (by decide) (by first | omega | exact hw _ | exact hx _ _ | assumption) (by first | omega | exact hw _ | exact hx _ _ | assumption) (fun h21 => ?_) (fun h21 => ?_)
  · exact j_return rfl d_Pap_stakeAll_59 (hQ _ _ _ _ _ (fun q q0 q1 => hA q q0 (by omega)))
  · have hsp := hs p (by omega) (by omega)
    refine j_aload_n d_Pap_stakeAll_24 rfl ?_
    refine gf_PX_0_15 f_Pap_61 d_Pap_stakeAll_25 ?_
    refine j_iload d_Pap_stakeAll_28 rfl ?_
    refine j_aload_n d_Pap_stakeAll_30 rfl ?_
    refine gf_PX_0_11 f_Pap_68 d_Pap_stakeAll_31 ?_
    refine j_aload_n d_Pap_stakeAll_34 rfl ?_
    refine j_aload_nV d_Pap_stakeAll_35 rfl (LV.or hLV) ?_
    refine j_iload_n d_Pap_stakeAll_36 rfl ?_
    refine j_aload_n d_Pap_stakeAll_37 rfl ?_
    refine gf_PX_7_0 f_Pap_72 d_Pap_stakeAll_38 ?_
    refine gf_PX_8_0 f_Pap_98 d_Pap_stakeAll_41 ?_
    refine j_iload d_Pap_stakeAll_44 rfl ?_
    refine al_PX_6 d_Pap_stakeAll_46 (by omega) (by omega) ?_
    refine j_iload d_Pap_stakeAll_47 rfl ?_
    refine v_call5 d_Pap_stakeAll_49 c_Pap_87 rfl ⟨_, rfl, rfl⟩ (Nat.le_of_ble_eq_true rfl) (t_PX_amount hn_ ht0 ht2 hLV (by omega) (by omega) (by omega) (by omega) (by omega) (by omega) (fun td2 br2 sk2 wd2 => ?_))
    refine as_PX_2 d_Pap_stakeAll_52 (by omega) (by omega) ?_
    refine z_iinc d_Pap_stakeAll_53 rfl (by decide) ?_
    try rw [x_s1_V (i := 4) rfl (LV.cat hLV)]
    show SJ _ _ _ _ [_, _, _, _, _] _ _ _ _ _
    refine j_goto (t := 12) d_Pap_stakeAll_56 (by decide) ?_
    refine ih _ (by omega) (p + 1) _ _ _ _ _ rfl (by omega) (by omega) (fun q q0 q1 => ?_)
    by_cases e : q = p
    · rw [e, up_eq]
    · rw [up_ne e]; exact hA q q0 (by omega)
theorem t_Pap_stakeAll {g : Bool} {d : Nat} {Q : List xM → Option Value → Prop} {pq0 pq1 pq2 pq3 pq4 pq5 pq6 pq7 pq8 pq9 lc fo rn rl rp td br yn yl yp : Int} {xk sq oq rs rm rd ro tm sk wd ys ym yd yo : Int → Int} {lx : Nat → Option Nat} {pr be : Int → Int → Int} {ts : List TD} {K : Int → Int} (hS : SI K lc fo rn rl rp rs rm rd tm) (hX : LX K lx ts) {what : Int} (w0_ : 0 ≤ what) (w1_ : what ≤ 2) (hQ : ∀ td br sk wd sq, (∀ q, 0 ≤ q → q < rn → sq q = tl K (what + 1) (rs q) q 1) → Q (W_PX pq0 pq1 pq2 pq3 pq4 pq5 pq6 pq7 pq8 pq9 lc fo rn rl rp td br yn yl yp xk sq oq rs rm rd ro tm sk wd ys ym yd yo lx pr be ts) none) : CT g m_Pap_stakeAll (d + 4) [.ref 0, .ref 7, .int (ii what)] (W_PX pq0 pq1 pq2 pq3 pq4 pq5 pq6 pq7 pq8 pq9 lc fo rn rl rp td br yn yl yp xk sq oq rs rm rd ro tm sk wd ys ym yd yo lx pr be ts) 0 0 Q := by
  refine CT.of (by decide) (Nat.le_of_ble_eq_true rfl) ?_
  show SJ _ _ _ _ [some (.ref 0), some (.ref 7), some (.int (ii what)), none, none] [] _ _ _ _
  obtain ⟨hR, hKR, htm0, htm1, htm2, hlc, hfo⟩ := id hS
  obtain ⟨hrn, ⟨hn0, hn1⟩, hrs, hrp, hpu⟩ := id hR
  obtain ⟨⟨kn0, kn1⟩, kns, ⟨kp0, kp1⟩, ⟨kd0, kd1⟩, ⟨km0, km1⟩, ⟨kt0, kt1⟩, ⟨kf0, kf1⟩⟩ := id hKR
  refine j_aload_n d_Pap_stakeAll_0 rfl ?_
  refine j_aload_n d_Pap_stakeAll_1 rfl ?_
  refine gf_PX_7_4 f_Pap_91 d_Pap_stakeAll_2 ?_
  refine v_call1 d_Pap_stakeAll_5 c_Pap_94 rfl ⟨_, rfl, rfl⟩ (Nat.le_of_ble_eq_true rfl) (t_PX_lawOf2 hS hX (fun hLV => ?_) (fun aw hLV => ?_))
  · refine j_astore_nV d_Pap_stakeAll_8 (by decide) (LV.or hLV) ?_
    show SJ _ _ _ _ [_, _, _, _, _] _ _ _ _ _
    refine z_iconst d_Pap_stakeAll_9 ?_
    refine j_istore d_Pap_stakeAll_10 (by decide) ?_
    try rw [x_s1_V (i := 4) rfl (LV.cat hLV)]
    show SJ _ _ _ _ [_, _, _, _, _] _ _ _ _ _
    first
    | exact lp_stkN hrn htm0 htm2 hLV (by omega) (by omega) (fun j j0 j1 => by have := hrs j j0 j1; omega) w0_ w1_ hQ _ 0 _ _ _ _ _ rfl (by omega) (by omega) (fun q q0 q1 => by omega)
    | exact lp_stkR hrn htm0 htm2 hLV (by omega) (by omega) (fun j j0 j1 => by have := hrs j j0 j1; omega) w0_ w1_ hQ _ 0 _ _ _ _ _ rfl (by omega) (by omega) (fun q q0 q1 => by omega)
  · refine j_astore_nV d_Pap_stakeAll_8 (by decide) (LV.or hLV) ?_
    show SJ _ _ _ _ [_, _, _, _, _] _ _ _ _ _
    refine z_iconst d_Pap_stakeAll_9 ?_
    refine j_istore d_Pap_stakeAll_10 (by decide) ?_
    try rw [x_s1_V (i := 4) rfl (LV.cat hLV)]
    show SJ _ _ _ _ [_, _, _, _, _] _ _ _ _ _
    first
    | exact lp_stkN hrn htm0 htm2 hLV (by omega) (by omega) (fun j j0 j1 => by have := hrs j j0 j1; omega) w0_ w1_ hQ _ 0 _ _ _ _ _ rfl (by omega) (by omega) (fun q q0 q1 => by omega)
    | exact lp_stkR hrn htm0 htm2 hLV (by omega) (by omega) (fun j j0 j1 => by have := hrs j j0 j1; omega) w0_ w1_ hQ _ 0 _ _ _ _ _ rfl (by omega) (by omega) (fun q q0 q1 => by omega)
