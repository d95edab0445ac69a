theorem rnI_none {K : Int → Int} {a : Int} : ∀ (k : Nat) (b : Int) (q : Int × Int), (∀ j, b ≤ j → j < b + k → ¬ (q.1 < j - a ∧ lo K a j = 0)) → rnI K a k b q = q
  | 0, b, q, _ => rfl
  | k + 1, b, q, h => by
    show rnI K a k (b + 1) (if q.1 < b - a ∧ lo K a b = 0 then (b - a, a) else q) = q
    rw [if_neg (h b (by omega) (by omega))]
    exact rnI_none k (b + 1) q (fun j j0 j1 => h j (by omega) (by omega))
theorem rnI_top {K : Int → Int} {a B : Int} (hB : lo K a B = 0) : ∀ (k : Nat) (b : Int) (q : Int × Int), q.1 < B - a → b ≤ B → B < b + k → (∀ j, B < j → j < b + k → ¬ lo K a j = 0) → rnI K a k b q = (B - a, a)
  | 0, b, q, _, h2, h3, _ => by omega
  | k + 1, b, q, h1, h2, h3, h => by
    show rnI K a k (b + 1) (if q.1 < b - a ∧ lo K a b = 0 then (b - a, a) else q) = (B - a, a)
    by_cases e : b = B
    · rw [e, if_pos ⟨h1, hB⟩]
      exact rnI_none k (B + 1) _ (fun j j0 j1 z => h j (by omega) (by omega) z.2)
    · by_cases c : q.1 < b - a ∧ lo K a b = 0
      · rw [if_pos c]
        exact rnI_top hB k (b + 1) _ (by show b - a < B - a; omega) (by omega) (by omega) (fun j j0 j1 => h j j0 (by omega))
      · rw [if_neg c]
        exact rnI_top hB k (b + 1) q h1 (by omega) (by omega) (fun j j0 j1 => h j j0 (by omega))
theorem lp_frn1 {g : Bool} {d : Nat} {Q : List xM → Option Value → Prop} {pq0 pq1 pq4 pq5 pq6 pq7 pq8 pq9 lc fo rn td br yn yl yp : Int} {xk sq oq rs tm sk wd ys ym yd yo : Int → Int} {lx : Nat → Option Nat} {pr be : Int → Int → Int} {ts : List TD} {K : Int → Int} (hn_ : rn = K 0) (n0_ : 0 ≤ rn) (n1_ : rn ≤ 20) {a z1 z2 : Int} (a0_ : 0 ≤ a) (a1_ : a < rn) (hz1 : 0 ≤ z1) (hkk : ∀ rl rp rm rd ro pq2 pq3, RI K rn rl rp rs rm rd → (pq2, pq3) = rnI K a (K 0 + 1 - (a + 1)).toNat (a + 1) (z1, z2) → SJ g m_Pap_findRun (d + 2) 66 [some (.ref 0), some (.ref 8), some (.int (ii a)), none] [] (W_PX pq0 pq1 pq2 pq3 pq4 pq5 pq6 pq7 pq8 pq9 lc fo rn rl rp td br yn yl yp xk sq oq rs rm rd ro tm sk wd ys ym yd yo lx pr be ts) 0 0 Q) : ∀ (nn : Nat) (t : Int) (pq2 : Int) (pq3 : Int) (rl : Int) (rp : Int) (rm : Int → Int) (rd : Int → Int) (ro : Int → Int), (t + 1).toNat = nn → -1 ≤ t → t < rn → 0 ≤ pq2 → pq2 ≤ 20 → RI K rn rl rp rs rm rd → (t - a < pq2 → (pq2, pq3) = rnI K a (K 0 + 1 - (a + 1)).toNat (a + 1) (z1, z2)) → (pq2 ≤ t - a → pq2 = z1 ∧ pq3 = z2 ∧ ∀ b, t + 1 < b → b ≤ rn → ¬ lo K a b = 0) → SJ g m_Pap_findRun (d + 2) 27 [some (.ref 0), some (.ref 8), some (.int (ii a)), some (.int (ii t))] [] (W_PX pq0 pq1 pq2 pq3 pq4 pq5 pq6 pq7 pq8 pq9 lc fo rn rl rp td br yn yl yp xk sq oq rs rm rd ro tm sk wd ys ym yd yo lx pr be ts) 0 0 Q := by
  intro nn
  induction nn using Nat.strongRecOn with
  | ind nn ih =>
  intro t pq2 pq3 rl rp rm rd ro hn t0 t1 l0 l1 hR hI hJ
  refine j_iload_n d_Pap_findRun_27 rfl ?_
  refine j_iload_n d_Pap_findRun_28 rfl ?_
  refine z_isub d_Pap_findRun_29 ?_
  refine j_aload_n d_Pap_findRun_30 rfl ?_
  refine gf_PX_0_2 f_Pap_18 d_Pap_findRun_31 ?_
  refine z_icmp_lt (t := 66) d_Pap_findRun_34 (by decide) (by first | omega | exact hw _ | exact hx _ _ | assumption) (by first | omega | exact hw _ | exact hx _ _ | assumption) (fun h34 => ?_) (fun h34 => ?_)
  · refine SJ.mask [true, true, true, false] ?_
    show SJ _ _ _ _ [_, _, _, none] _ _ _ _ _
    exact hkk _ _ _ _ _ pq2 pq3 hR (hI (by omega))
  · obtain ⟨e1, e2, e3⟩ := hJ (by omega)
    refine j_aload_n d_Pap_findRun_37 rfl ?_
    refine j_iload_n d_Pap_findRun_38 rfl ?_
    refine j_iload_n d_Pap_findRun_39 rfl ?_
    refine v_call2 d_Pap_findRun_40 c_Pap_145 rfl ⟨_, rfl, rfl⟩ (Nat.le_of_ble_eq_true rfl) (E_PX_Row (fun Q2 kz => t_Row_isWhole hR (by omega) (by omega) (by omega) (fun h40 rl2 rp2 rm2 rd2 ro2 hR2 => kz _ _ _ _ _ _ _ _ rfl ?_) (fun h40 rl2 rp2 rm2 rd2 ro2 hR2 => kz _ _ _ _ _ _ _ _ rfl ?_)) rfl)
    · refine z_if_eq (t := 60) d_Pap_findRun_43 (by decide) (by first | omega | exact hw _ | exact hx _ _ | assumption) (fun h => absurd h (by decide)) (fun _ => ?_)
      have fnd_ := h40
      refine j_aload_n d_Pap_findRun_46 rfl ?_
      refine j_iload_n d_Pap_findRun_47 rfl ?_
      refine j_iload_n d_Pap_findRun_48 rfl ?_
      refine z_isub d_Pap_findRun_49 ?_
      refine z_iconst d_Pap_findRun_50 ?_
      refine z_iadd d_Pap_findRun_51 ?_
      refine pf_PX_0_2 f_Pap_18 d_Pap_findRun_52 ?_
      refine j_aload_n d_Pap_findRun_55 rfl ?_
      refine j_iload_n d_Pap_findRun_56 rfl ?_
      refine pf_PX_0_3 f_Pap_21 d_Pap_findRun_57 ?_
      refine z_iinc d_Pap_findRun_60 rfl (by decide) ?_
      show SJ _ _ _ _ [_, _, _, _] _ _ _ _ _
      refine j_goto (t := 27) d_Pap_findRun_63 (by decide) ?_
      first
      | (have fnd2_ := fnd_
         refine ih _ (by omega) (t + -1) (t - a + 1) a _ _ _ _ _ rfl (by omega) (by omega) (by omega) (by omega) hR2 (fun hz => ?_) (fun hz => by omega)
         have h9 := rnI_top (B := t + 1) h40 (K 0 + 1 - (a + 1)).toNat (a + 1) (z1, z2) (by show z1 < t + 1 - a; omega) (by omega) (by omega) (fun j j0 j1 => e3 j j0 (by omega))
         rw [h9, show t + 1 - a = t - a + 1 by omega])
      | (refine ih _ (by omega) (t + -1) pq2 pq3 _ _ _ _ _ rfl (by omega) (by omega) (by omega) (by omega) hR2 (fun hz => ?_) (fun hz => ⟨e1, e2, fun b b0 b1 => ?_⟩)
         · rw [rnI_none _ _ _ (fun j j0 j1 z => ?_), e1, e2]
           have z1_ : z1 < j - a := z.1
           by_cases e : j = t + 1
           · exact h40 (by rw [← e]; exact z.2)
           · exact e3 j (by omega) (by omega) z.2
         · by_cases e : b = t + 1
           · rw [e]; exact h40
           · exact e3 b (by omega) b1)
    · refine z_if_eq (t := 60) d_Pap_findRun_43 (by decide) (by first | omega | exact hw _ | exact hx _ _ | assumption) (fun _ => ?_) (fun h => absurd h (by decide))
      refine z_iinc d_Pap_findRun_60 rfl (by decide) ?_
      show SJ _ _ _ _ [_, _, _, _] _ _ _ _ _
      refine j_goto (t := 27) d_Pap_findRun_63 (by decide) ?_
      first
      | (have fnd2_ := fnd_
         refine ih _ (by omega) (t + -1) (t - a + 1) a _ _ _ _ _ rfl (by omega) (by omega) (by omega) (by omega) hR2 (fun hz => ?_) (fun hz => by omega)
         have h9 := rnI_top (B := t + 1) h40 (K 0 + 1 - (a + 1)).toNat (a + 1) (z1, z2) (by show z1 < t + 1 - a; omega) (by omega) (by omega) (fun j j0 j1 => e3 j j0 (by omega))
         rw [h9, show t + 1 - a = t - a + 1 by omega])
      | (refine ih _ (by omega) (t + -1) pq2 pq3 _ _ _ _ _ rfl (by omega) (by omega) (by omega) (by omega) hR2 (fun hz => ?_) (fun hz => ⟨e1, e2, fun b b0 b1 => ?_⟩)
         · rw [rnI_none _ _ _ (fun j j0 j1 z => ?_), e1, e2]
           have z1_ : z1 < j - a := z.1
           by_cases e : j = t + 1
           · exact h40 (by rw [← e]; exact z.2)
           · exact e3 j (by omega) (by omega) z.2
         · by_cases e : b = t + 1
           · rw [e]; exact h40
           · exact e3 b (by omega) b1)
theorem lp_frn2 {g : Bool} {d : Nat} {Q : List xM → Option Value → Prop} {pq0 pq1 pq4 pq5 pq6 pq7 pq8 pq9 lc fo rn td br yn yl yp : Int} {xk sq oq rs tm sk wd ys ym yd yo : Int → Int} {lx : Nat → Option Nat} {pr be : Int → Int → Int} {ts : List TD} {K : Int → Int} (hn_ : rn = K 0) (n0_ : 0 ≤ rn) (n1_ : rn ≤ 20) {r2 r3 : Int} (hQ : ∀ rl rp rm rd ro, RI K rn rl rp rs rm rd → Q (W_PX pq0 pq1 r2 r3 pq4 pq5 pq6 pq7 pq8 pq9 lc fo rn rl rp td br yn yl yp xk sq oq rs rm rd ro tm sk wd ys ym yd yo lx pr be ts) none)  : ∀ (nn : Nat) (a : Int) (pq2 : Int) (pq3 : Int) (rl : Int) (rp : Int) (rm : Int → Int) (rd : Int → Int) (ro : Int → Int), (rn - a).toNat = nn → 0 ≤ a → a ≤ rn → 0 ≤ pq2 → pq2 ≤ 20 → -1 ≤ pq3 → pq3 ≤ 20 → RI K rn rl rp rs rm rd → rnO K (rn - a).toNat a (pq2, pq3) = (r2, r3) → SJ g m_Pap_findRun (d + 2) 12 [some (.ref 0), some (.ref 8), some (.int (ii a)), none] [] (W_PX pq0 pq1 pq2 pq3 pq4 pq5 pq6 pq7 pq8 pq9 lc fo rn rl rp td br yn yl yp xk sq oq rs rm rd ro tm sk wd ys ym yd yo lx pr be ts) 0 0 Q := by
  intro nn
  induction nn using Nat.strongRecOn with
  | ind nn ih =>
  intro a pq2 pq3 rl rp rm rd ro hn a0_ a1_ l0 l1 l2 l3 hR hF
  refine j_iload_n d_Pap_findRun_12 rfl ?_
  refine j_aload_n d_Pap_findRun_13 rfl ?_
  refine gf_PX_8_1 f_Pap_77 d_Pap_findRun_14 ?_
  refine z_icmp_ge (t := 72) d_Pap_findRun_17 (by decide) (by first | omega | exact hw _ | exact hx _ _ | assumption) (by first | omega | exact hw _ | exact hx _ _ | assumption) (fun h17 => ?_) (fun h17 => ?_)
  · rw [show (rn - a).toNat = 0 by omega] at hF
    unfold rnO at hF
    cases hF
    exact j_return rfl d_Pap_findRun_72 (hQ _ _ _ _ _ hR)
  · rw [show (rn - a).toNat = (rn - (a + 1)).toNat + 1 by omega] at hF
    unfold rnO at hF
    have hrr := rnI_R (K := K) (a := a) (by omega) (by omega) (K 0 + 1 - (a + 1)).toNat (a + 1) (pq2, pq3) l0 l1 l2 l3 (by omega)
    refine j_aload_n d_Pap_findRun_20 rfl ?_
    refine gf_PX_8_1 f_Pap_77 d_Pap_findRun_21 ?_
    refine z_iconst d_Pap_findRun_24 ?_
    refine z_isub d_Pap_findRun_25 ?_
    refine j_istore_n d_Pap_findRun_26 (by decide) ?_
    show SJ _ _ _ _ [_, _, _, _] _ _ _ _ _
    refine lp_frn1 (z1 := pq2) (z2 := pq3) hn_ n0_ n1_ a0_ (by omega) l0 (fun rl rp rm rd ro y2 y3 hR2 hy => ?_) _ (rn - 1) _ _ _ _ _ _ _ rfl (by omega) (by omega) l0 l1 hR (fun hz => ?_) (fun hz => ⟨rfl, rfl, fun b b0 b1 => by omega⟩)
    · rw [← hy] at hF hrr
      refine z_iinc d_Pap_findRun_66 rfl (by decide) ?_
      show SJ _ _ _ _ [_, _, _, _] _ _ _ _ _
      refine j_goto (t := 12) d_Pap_findRun_69 (by decide) ?_
      exact ih _ (by omega) (a + 1) y2 y3 _ _ _ _ _ rfl (by omega) (by omega) hrr.1 hrr.2.1 hrr.2.2.1 hrr.2.2.2 hR2 hF
    · rw [rnI_none _ _ _ (fun j j0 j1 z => ?_)]
      have z1_ : pq2 < j - a := z.1
      omega
theorem t_Pap_findRun {g : Bool} {d : Nat} {Q : List xM → Option Value → Prop} {pq0 pq1 pq2 pq3 pq4 pq5 pq6 pq7 pq8 pq9 lc fo rn rl rp td br yn yl yp : Int} {xk sq oq rs rm rd ro tm sk wd ys ym yd yo : Int → Int} {lx : Nat → Option Nat} {pr be : Int → Int → Int} {ts : List TD} {K : Int → Int} (hn_ : rn = K 0) (n0_ : 0 ≤ rn) (n1_ : rn ≤ 20) (hR : RI K rn rl rp rs rm rd) {r2 r3 : Int} (hF : rnO K (K 0 - 0).toNat 0 (0, -1) = (r2, r3)) (hQ : ∀ rl rp rm rd ro, RI K rn rl rp rs rm rd → Q (W_PX pq0 pq1 r2 r3 pq4 pq5 pq6 pq7 pq8 pq9 lc fo rn rl rp td br yn yl yp xk sq oq rs rm rd ro tm sk wd ys ym yd yo lx pr be ts) none)  : CT g m_Pap_findRun (d + 2) [.ref 0, .ref 8] (W_PX pq0 pq1 pq2 pq3 pq4 pq5 pq6 pq7 pq8 pq9 lc fo rn rl rp td br yn yl yp xk sq oq rs rm rd ro tm sk wd ys ym yd yo lx pr be ts) 0 0 Q := by
  refine CT.of (by decide) (Nat.le_of_ble_eq_true rfl) ?_
  show SJ _ _ _ _ [some (.ref 0), some (.ref 8), none, none] [] _ _ _ _
  refine j_aload_n d_Pap_findRun_0 rfl ?_
  refine z_iconst d_Pap_findRun_1 ?_
  refine pf_PX_0_2 f_Pap_18 d_Pap_findRun_2 ?_
  refine j_aload_n d_Pap_findRun_5 rfl ?_
  refine z_iconst d_Pap_findRun_6 ?_
  refine pf_PX_0_3 f_Pap_21 d_Pap_findRun_7 ?_
  refine z_iconst d_Pap_findRun_10 ?_
  refine j_istore_n d_Pap_findRun_11 (by decide) ?_
  show SJ _ _ _ _ [_, _, _, _] _ _ _ _ _
  rw [← hn_] at hF
  exact lp_frn2 hn_ n0_ n1_ hQ _ 0 0 (-1) _ _ _ _ _ rfl (by omega) (by omega) (by omega) (by omega) (by omega) (by omega) hR hF
