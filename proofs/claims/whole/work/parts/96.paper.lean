theorem t_H_mends {g : Bool} {d : Nat} {Q : List xM → Option Value → Prop} {hdn bl sp su lc fo rn rl rp pz pn fl td br dz ez rdn rlt rbr fz : Int} {rs rm rd ro tm kp by_ tk ps pv pw sk wd dk dl dg rsk wr rf : Int → Int} {qI aI bI cI gI pI yI : Nat → Int} {qF aF bF cF gF eF fF pF yF nF : Nat → Int → Int} {pr be wy : Int → Int → Int} {lx qx ax bx cx : Nat → Option Nat} {ts : List TD} {K : Int → Int} (hn_ : rn = K 0) (ht0 : tm 0 = K 21) (ht2 : tm 2 = K 23) {lv : Value} (hLV : LV K 148 ts lv) (h7 : R32 (pI 7)) (n0_ : 0 ≤ rn) (n1_ : rn ≤ 20) (hs : ∀ j, 0 ≤ j → j < rn → rs j = K (1 + j) ∧ 0 ≤ rs j ∧ rs j ≤ 11) (hTL : ∀ s p, 0 ≤ s → s ≤ 11 → 0 ≤ p → p ≤ 20 → 0 ≤ tl K 1 s p 1 ∧ tl K 1 s p 1 ≤ 99) (ht : MDb K 0 rn < 100000000 → ∀ (td br : Int) (sk wd : Int → Int) (pI yI : Nat → Int) (pF yF : Nat → Int → Int) (pr be : Int → Int → Int), R32 (pI 7) → pI 0 = (MDb K 0 rn).tdiv 100 → pI 1 = (MDb K 0 rn).tmod 100 → Q (W_H hdn bl sp su lc fo rn rl rp pz pn fl td br dz ez rdn rlt rbr fz rs rm rd ro tm kp by_ tk ps pv pw sk wd dk dl dg rsk wr rf qI aI bI cI gI pI yI qF aF bF cF gF eF fF pF yF nF pr be wy lx qx ax bx cx ts) (some (.int (ii 1)))) (hf : ¬ MDb K 0 rn < 100000000 → ∀ (td br : Int) (sk wd : Int → Int) (pI yI : Nat → Int) (pF yF : Nat → Int → Int) (pr be : Int → Int → Int), R32 (pI 7) → Q (W_H hdn bl sp su lc fo rn rl rp pz pn fl td br dz ez rdn rlt rbr fz rs rm rd ro tm kp by_ tk ps pv pw sk wd dk dl dg rsk wr rf qI aI bI cI gI pI yI qF aF bF cF gF eF fF pF yF nF pr be wy lx qx ax bx cx ts) (some (.int (ii 0)))) : CT g m_Pap_mends (d + 5) [.ref 62, .ref 1, lv] (W_H hdn bl sp su lc fo rn rl rp pz pn fl td br dz ez rdn rlt rbr fz rs rm rd ro tm kp by_ tk ps pv pw sk wd dk dl dg rsk wr rf qI aI bI cI gI pI yI qF aF bF cF gF eF fF pF yF nF pr be wy lx qx ax bx cx ts) 0 0 Q := by
  rcases hLV with ⟨rfl, h25⟩ | ⟨j, t, rfl, hj, hr⟩
  · exact E_H_PX (fun Q2 kz => t_Pap_mendsN hn_ ht0 ht2 (Or.inl ⟨rfl, h25⟩) n0_ n1_ hs hTL (fun h a b c e f i => kz _ _ _ _ _ _ _ _ _ _ _ _ _ _ _ _ _ _ _ _ _ _ _ _ _ _ _ _ _ _ _ _ rfl (ht h _ _ _ _ _ _ _ _ _ _ h7 rfl rfl)) (fun h a b c e f i => kz _ _ _ _ _ _ _ _ _ _ _ _ _ _ _ _ _ _ _ _ _ _ _ _ _ _ _ _ _ _ _ _ rfl (hf h _ _ _ _ _ _ _ _ _ _ h7))) rfl
  · exact E_H_PX (fun Q2 kz => t_Pap_mendsR (aw := 51 + 8 * j) hn_ ht0 ht2 (Or.inr ⟨j, t, rfl, hj, hr⟩) n0_ n1_ hs hTL (fun h a b c e f i => kz _ _ _ _ _ _ _ _ _ _ _ _ _ _ _ _ _ _ _ _ _ _ _ _ _ _ _ _ _ _ _ _ rfl (ht h _ _ _ _ _ _ _ _ _ _ h7 rfl rfl)) (fun h a b c e f i => kz _ _ _ _ _ _ _ _ _ _ _ _ _ _ _ _ _ _ _ _ _ _ _ _ _ _ _ _ _ _ _ _ rfl (hf h _ _ _ _ _ _ _ _ _ _ h7))) (by show [_, _, Value.ref (148 + 8 * j)] = [_, _, Value.ref (sgt _ 148 (51 + 8 * j))]; rw [sgt_at (n := 51) rfl]; rfl)
theorem t_Hou_mend {g : Bool} {d : Nat} {Q : List xM → Option Value → Prop} {hdn bl sp su lc fo rn rl rp pz pn fl td br dz ez rdn rlt rbr fz : Int} {rs rm rd ro tm kp by_ tk ps pv pw sk wd dk dl dg rsk wr rf : Int → Int} {qI aI bI cI gI pI yI : Nat → Int} {qF aF bF cF gF eF fF pF yF nF : Nat → Int → Int} {pr be wy : Int → Int → Int} {lx qx ax bx cx : Nat → Option Nat} {ts : List TD} {K : Int → Int} (hS : SI K lc fo rn rl rp rs rm rd tm) (hL : LB K lx ts) (h7 : R32 (pI 7)) {w : Int} (r1 : R32 w) (hnx : ¬ (0 ≤ w ∧ w ≤ 1) → Q (W_H hdn bl sp su lc fo rn rl rp pz pn fl td br dz ez rdn rlt rbr fz rs rm rd ro tm kp by_ tk ps pv pw sk wd dk dl dg rsk wr rf qI aI bI cI gI pI yI qF aF bF cF gF eF fF pF yF nF pr be wy lx qx ax bx cx ts) (some (.int (ii (-1))))) (hQ : 0 ≤ w ∧ w ≤ 1 → ∀ (td br : Int) (sk wd : Int → Int) (pI yI : Nat → Int) (pF yF : Nat → Int → Int) (pr be : Int → Int → Int), R32 (pI 7) → Q (W_H hdn bl sp su lc fo rn rl rp pz pn fl td br dz ez rdn rlt rbr fz rs rm rd ro tm kp by_ tk ps pv pw sk wd dk dl dg rsk wr rf qI aI bI cI gI pI yI qF aF bF cF gF eF fF pF yF nF pr be wy lx qx ax bx cx ts) (some (.int (ii (mdR K w)))))  : CT g m_Hou_mend (d + 6) [.ref 0, .int (ii w)] (W_H hdn bl sp su lc fo rn rl rp pz pn fl td br dz ez rdn rlt rbr fz rs rm rd ro tm kp by_ tk ps pv pw sk wd dk dl dg rsk wr rf qI aI bI cI gI pI yI qF aF bF cF gF eF fF pF yF nF pr be wy lx qx ax bx cx ts) 0 0 Q := by
  refine CT.of (by decide) (Nat.le_of_ble_eq_true rfl) ?_
  show SJ _ _ _ _ [some (.ref 0), some (.int (ii w))] [] _ _ _ _
  have hKR := hS.2.1
  have hKK := hL.kok hKR
  have hLX := hL.lxE hKR
  have hn20 := hKR.1
  obtain ⟨hR, -, htm0, htm1, htm2, hlc, hfo⟩ := id hS
  obtain ⟨hrn, ⟨hn0, hn1⟩, hrs, hrp, hpu⟩ := id hR
  have hf25 := hKR.2.2.2.2.2.2
  have hMb := MDb_R (K := K) (n := K 0) hn20.2 (fun j j0 j1 => hKR.2.1 j j0 j1) (fun s p s0 s1 p0 p1 => hL.tlR hKR s p s0 s1 p0 p1) (a := 0) (b := K 0) (by omega) (by omega) (by omega)
  have hmd := mdR_b (K := K) hn20 (fun j j0 j1 => hKR.2.1 j j0 j1) (fun s p s0 s1 p0 p1 => hL.tlR hKR s p s0 s1 p0 p1) w
  refine j_iload_n d_Hou_mend_0 rfl ?_
  refine z_if_lt (t := 37) d_Hou_mend_1 (by decide) (by first | omega | exact hw _ | exact hx _ _ | assumption) (fun h1 => ?_) (fun h1 => ?_)
  · refine z_iconst d_Hou_mend_37 ?_
    first
    | exact z_iret rfl d_Hou_mend_38 rfl (hnx (by omega))
    | exact z_iret rfl d_Hou_mend_38 (by rw [hmd, if_neg h31]) (hQ (by omega) _ _ _ _ _ _ _ _ _ _ h72)
  · refine j_iload_n d_Hou_mend_4 rfl ?_
    refine z_iconst d_Hou_mend_5 ?_
    refine z_icmp_gt (t := 37) d_Hou_mend_6 (by decide) (by first | omega | exact hw _ | exact hx _ _ | assumption) (by first | omega | exact hw _ | exact hx _ _ | assumption) (fun h6 => ?_) (fun h6 => ?_)
    · refine z_iconst d_Hou_mend_37 ?_
      first
      | exact z_iret rfl d_Hou_mend_38 rfl (hnx (by omega))
      | exact z_iret rfl d_Hou_mend_38 (by rw [hmd, if_neg h31]) (hQ (by omega) _ _ _ _ _ _ _ _ _ _ h72)
    · refine j_aload_n d_Hou_mend_9 rfl ?_
      refine gf_H_0_10 f_Hou_76 d_Hou_mend_10 ?_
      refine j_aload_n d_Hou_mend_13 rfl ?_
      refine gf_H_0_0 f_Hou_12 d_Hou_mend_14 ?_
      refine j_aload_n d_Hou_mend_17 rfl ?_
      refine gf_H_0_0 f_Hou_12 d_Hou_mend_18 ?_
      refine j_aload_n d_Hou_mend_21 rfl ?_
      refine gf_H_0_0 f_Hou_12 d_Hou_mend_22 ?_
      refine gf_H_1_4 f_Hou_181 d_Hou_mend_25 ?_
      refine v_call1 d_Hou_mend_28 c_Hou_184 rfl ⟨_, rfl, rfl⟩ (Nat.le_of_ble_eq_true rfl) (t_H_lawOf hKR hL hlc (by omega) (by omega) (fun lv hLV => ?_))
      rw [up_25 hfo] at hLV
      refine v_call2 d_Hou_mend_31 c_Hou_241 rfl ⟨_, rfl, rfl⟩ (Nat.le_of_ble_eq_true rfl) (t_H_mends hrn htm0 htm2 hLV h7 hn0 hn1 hrs (fun s p s0 s1 p0 p1 => hL.tlR hKR s p s0 s1 p0 p1) (fun h31 td2 br2 sk2 wd2 pI2 yI2 pF2 yF2 pr2 be2 h72 hp0 hp1 => ?_) (fun h31 td2 br2 sk2 wd2 pI2 yI2 pF2 yF2 pr2 be2 h72 => ?_))
      · rw [hrn] at h31
        refine z_if_ne (t := 39) d_Hou_mend_34 (by decide) (by first | omega | exact hw _ | exact hx _ _ | assumption) (fun _ => ?_) (fun h => absurd h (by decide))
        refine j_iload_n d_Hou_mend_39 rfl ?_
        refine z_if_ne (t := 53) d_Hou_mend_40 (by decide) (by first | omega | exact hw _ | exact hx _ _ | assumption) (fun h40 => ?_) (fun h40 => ?_)
        · refine j_aload_n d_Hou_mend_53 rfl ?_
          refine gf_H_0_10 f_Hou_76 d_Hou_mend_54 ?_
          refine gf_H_62_1 f_Hou_248 d_Hou_mend_57 ?_
          first
          | exact z_iret rfl d_Hou_mend_60 (by rw [hmd, if_pos h31, if_pos (by omega), hp0, hrn]) (hQ (by omega) _ _ _ _ _ _ _ _ _ _ h72)
          | exact z_iret rfl d_Hou_mend_60 (by rw [hmd, if_pos h31, if_neg (by omega), hp1, hrn]) (hQ (by omega) _ _ _ _ _ _ _ _ _ _ h72)
        · refine j_aload_n d_Hou_mend_43 rfl ?_
          refine gf_H_0_10 f_Hou_76 d_Hou_mend_44 ?_
          refine gf_H_62_0 f_Hou_245 d_Hou_mend_47 ?_
          refine j_goto (t := 60) d_Hou_mend_50 (by decide) ?_
          first
          | exact z_iret rfl d_Hou_mend_60 (by rw [hmd, if_pos h31, if_pos (by omega), hp0, hrn]) (hQ (by omega) _ _ _ _ _ _ _ _ _ _ h72)
          | exact z_iret rfl d_Hou_mend_60 (by rw [hmd, if_pos h31, if_neg (by omega), hp1, hrn]) (hQ (by omega) _ _ _ _ _ _ _ _ _ _ h72)
      · rw [hrn] at h31
        refine z_if_ne (t := 39) d_Hou_mend_34 (by decide) (by first | omega | exact hw _ | exact hx _ _ | assumption) (fun h => absurd h (by decide)) (fun _ => ?_)
        refine z_iconst d_Hou_mend_37 ?_
        first
        | exact z_iret rfl d_Hou_mend_38 rfl (hnx (by omega))
        | exact z_iret rfl d_Hou_mend_38 (by rw [hmd, if_neg h31]) (hQ (by omega) _ _ _ _ _ _ _ _ _ _ h72)
theorem t_Hou_compare {g : Bool} {d : Nat} {Q : List xM → Option Value → Prop} {hdn bl sp su lc fo rn rl rp pz pn fl td br dz ez rdn rlt rbr fz : Int} {rs rm rd ro tm kp by_ tk ps pv pw sk wd dk dl dg rsk wr rf : Int → Int} {qI aI bI cI gI pI yI : Nat → Int} {qF aF bF cF gF eF fF pF yF nF : Nat → Int → Int} {pr be wy : Int → Int → Int} {lx qx ax bx cx : Nat → Option Nat} {ts : List TD} {K : Int → Int} (hS : SI K lc fo rn rl rp rs rm rd tm) (hL : LB K lx ts) (h7 : R32 (pI 7)) {w : Int} (r1 : R32 w) (hnx : ¬ (-1 ≤ w ∧ w < K 24) → Q (W_H hdn bl sp su lc fo rn rl rp pz pn fl td br dz ez rdn rlt rbr fz rs rm rd ro tm kp by_ tk ps pv pw sk wd dk dl dg rsk wr rf qI aI bI cI gI pI yI qF aF bF cF gF eF fF pF yF nF pr be wy lx qx ax bx cx ts) (some (.int (ii (-1))))) (hQ : -1 ≤ w ∧ w < K 24 → ∀ (td br : Int) (sk wd : Int → Int) (pI yI : Nat → Int) (pF yF : Nat → Int → Int) (pr be : Int → Int → Int), R32 (pI 7) → Q (W_H hdn bl sp su lc fo rn rl rp pz pn fl td br dz ez rdn rlt rbr fz rs rm rd ro tm kp by_ tk ps pv pw sk wd dk dl dg rsk wr rf qI aI bI cI gI pI yI qF aF bF cF gF eF fF pF yF nF pr be wy lx qx ax bx cx ts) (some (.int (ii (mdR (up K 25 w) 0)))))  : CT g m_Hou_compare (d + 6) [.ref 0, .int (ii w)] (W_H hdn bl sp su lc fo rn rl rp pz pn fl td br dz ez rdn rlt rbr fz rs rm rd ro tm kp by_ tk ps pv pw sk wd dk dl dg rsk wr rf qI aI bI cI gI pI yI qF aF bF cF gF eF fF pF yF nF pr be wy lx qx ax bx cx ts) 0 0 Q := by
  refine CT.of (by decide) (Nat.le_of_ble_eq_true rfl) ?_
  show SJ _ _ _ _ [some (.ref 0), some (.int (ii w))] [] _ _ _ _
  have hKR := hS.2.1
  have hKK := hL.kok hKR
  have hLX := hL.lxE hKR
  have hn20 := hKR.1
  obtain ⟨hR, -, htm0, htm1, htm2, hlc, hfo⟩ := id hS
  obtain ⟨hrn, ⟨hn0, hn1⟩, hrs, hrp, hpu⟩ := id hR
  have hf25 := hKR.2.2.2.2.2.2
  have hk24 := hKR.2.2.2.2.2.1
  refine j_aload_n d_Hou_compare_0 rfl ?_
  refine gf_H_0_0 f_Hou_12 d_Hou_compare_1 ?_
  refine j_iload_n d_Hou_compare_4 rfl ?_
  refine v_call1 d_Hou_compare_5 c_Hou_177 rfl ⟨_, rfl, rfl⟩ (Nat.le_of_ble_eq_true rfl) (E_H_SH (fun Q2 kz => t_Sta_hasLaw r1 (by omega) (by omega) (fun h5 => kz _ rfl ?_) (fun h5 => kz _ rfl ?_)) rfl)
  · refine z_if_eq (t := 33) d_Hou_compare_8 (by decide) (by first | omega | exact hw _ | exact hx _ _ | assumption) (fun h => absurd h (by decide)) (fun _ => ?_)
    have hKW : KOK (up K 25 w) := hKK.force (by omega) (by omega)
    have hTW : ∀ s p, 0 ≤ s → s ≤ 11 → 0 ≤ p → p ≤ 20 → 0 ≤ tl (up K 25 w) 1 s p 1 ∧ tl (up K 25 w) 1 s p 1 ≤ 99 := fun s p s0 s1 p0 p1 => hKW.hasR s0 s1 p0 p1 (by omega)
    have hrnW : rn = up K 25 w 0 := by rw [up_ne (by decide)]; exact hrn
    have hrsW : ∀ j, 0 ≤ j → j < rn → rs j = up K 25 w (1 + j) ∧ 0 ≤ rs j ∧ rs j ≤ 11 := fun j j0 j1 => by rw [up_ne (by omega)]; exact hrs j j0 j1
    have hmd := mdR_b (K := up K 25 w) hKW.1.1 (fun j j0 j1 => hKW.1.2.1 j j0 j1) hTW 0
    rw [if_pos rfl] at hmd
    have hMb := MDb_R (K := up K 25 w) (n := up K 25 w 0) hKW.1.1.2 (fun j j0 j1 => hKW.1.2.1 j j0 j1) hTW (a := 0) (b := up K 25 w 0) (by omega) hKW.1.1.1 (by omega)
    refine j_aload_n d_Hou_compare_11 rfl ?_
    refine gf_H_0_10 f_Hou_76 d_Hou_compare_12 ?_
    refine j_aload_n d_Hou_compare_15 rfl ?_
    refine gf_H_0_0 f_Hou_12 d_Hou_compare_16 ?_
    refine j_aload_n d_Hou_compare_19 rfl ?_
    refine gf_H_0_0 f_Hou_12 d_Hou_compare_20 ?_
    refine j_iload_n d_Hou_compare_23 rfl ?_
    refine v_call1 d_Hou_compare_24 c_Hou_184 rfl ⟨_, rfl, rfl⟩ (Nat.le_of_ble_eq_true rfl) (t_H_lawOf hKR hL hlc (by omega) (by omega) (fun lv hLV => ?_))
    refine v_call2 d_Hou_compare_27 c_Hou_241 rfl ⟨_, rfl, rfl⟩ (Nat.le_of_ble_eq_true rfl) (t_H_mends (K := up K 25 w) hrnW (by rw [up_ne (by decide)]; exact htm0) (by rw [up_ne (by decide)]; exact htm2) hLV h7 hn0 hn1 hrsW hTW (fun h27 td2 br2 sk2 wd2 pI2 yI2 pF2 yF2 pr2 be2 h72 hp0 hp1 => ?_) (fun h27 td2 br2 sk2 wd2 pI2 yI2 pF2 yF2 pr2 be2 h72 => ?_))
    · rw [hrnW] at h27
      refine z_if_ne (t := 35) d_Hou_compare_30 (by decide) (by first | omega | exact hw _ | exact hx _ _ | assumption) (fun _ => ?_) (fun h => absurd h (by decide))
      refine j_aload_n d_Hou_compare_35 rfl ?_
      refine gf_H_0_10 f_Hou_76 d_Hou_compare_36 ?_
      refine gf_H_62_0 f_Hou_245 d_Hou_compare_39 ?_
      exact z_iret rfl d_Hou_compare_42 (by rw [hmd, if_pos h27, hp0, hrnW]) (hQ (by omega) _ _ _ _ _ _ _ _ _ _ h72)
    · rw [hrnW] at h27
      refine z_if_ne (t := 35) d_Hou_compare_30 (by decide) (by first | omega | exact hw _ | exact hx _ _ | assumption) (fun h => absurd h (by decide)) (fun _ => ?_)
      refine z_iconst d_Hou_compare_33 ?_
      first
      | exact z_iret rfl d_Hou_compare_34 rfl (hnx (by omega))
      | exact z_iret rfl d_Hou_compare_34 (by rw [hmd, if_neg h27]) (hQ (by omega) _ _ _ _ _ _ _ _ _ _ h72)
  · refine z_if_eq (t := 33) d_Hou_compare_8 (by decide) (by first | omega | exact hw _ | exact hx _ _ | assumption) (fun _ => ?_) (fun h => absurd h (by decide))
    refine z_iconst d_Hou_compare_33 ?_
    first
    | exact z_iret rfl d_Hou_compare_34 rfl (hnx (by omega))
    | exact z_iret rfl d_Hou_compare_34 (by rw [hmd, if_neg h27]) (hQ (by omega) _ _ _ _ _ _ _ _ _ _ h72)
theorem t_Hou_strike {g : Bool} {d : Nat} {Q : List xM → Option Value → Prop} {hdn bl sp su lc fo rn rl rp pz pn fl td br dz ez rdn rlt rbr fz : Int} {rs rm rd ro tm kp by_ tk ps pv pw sk wd dk dl dg rsk wr rf : Int → Int} {qI aI bI cI gI pI yI : Nat → Int} {qF aF bF cF gF eF fF pF yF nF : Nat → Int → Int} {pr be wy : Int → Int → Int} {lx qx ax bx cx : Nat → Option Nat} {ts : List TD} {K : Int → Int} (hS : SI K lc fo rn rl rp rs rm rd tm) (hL : LB K lx ts) (h7 : R32 (pI 7)) {w : Int} {x : Int → Int} (r1 : R32 w) (hnx : ¬ (0 ≤ w ∧ w ≤ K 0) → Q (W_H hdn bl sp su lc fo rn rl rp pz pn fl td br dz ez rdn rlt rbr fz rs rm rd ro tm kp by_ tk ps pv pw sk wd dk dl dg rsk wr rf qI aI bI cI gI pI yI qF aF bF cF gF eF fF pF yF nF pr be wy lx qx ax bx cx ts) (some (.int (ii (-1))))) (hQ : 0 ≤ w ∧ w ≤ K 0 → ∀ (td br : Int) (sk wd : Int → Int) (pI yI : Nat → Int) (pF yF : Nat → Int → Int) (pr be : Int → Int → Int), R32 (pI 7) → Q (W_H hdn bl sp su lc fo rn rl rp pz pn fl td br dz ez rdn rlt rbr fz rs rm rd ro tm kp by_ tk ps pv pw sk wd dk dl dg rsk wr rf qI aI bI cI gI pI yI qF aF bF cF gF eF fF pF yF nF pr be wy lx qx ax bx cx ts) (some (.int (ii (stR K w x)))))  : CT g m_Hou_strike (d + 6) [.ref 0, .int (ii w)] (W_H hdn bl sp su lc fo rn rl rp pz pn fl td br dz ez rdn rlt rbr fz rs rm rd ro tm kp by_ tk ps pv pw sk wd dk dl dg rsk wr rf qI aI bI cI gI pI yI qF aF bF cF gF eF fF pF yF nF pr be wy lx qx ax bx cx ts) 0 0 Q := by
  refine CT.of (by decide) (Nat.le_of_ble_eq_true rfl) ?_
  show SJ _ _ _ _ [some (.ref 0), some (.int (ii w)), none] [] _ _ _ _
  have hKR := hS.2.1
  have hKK := hL.kok hKR
  have hLX := hL.lxE hKR
  have hn20 := hKR.1
  obtain ⟨hR, -, htm0, htm1, htm2, hlc, hfo⟩ := id hS
  obtain ⟨hrn, ⟨hn0, hn1⟩, hrs, hrp, hpu⟩ := id hR
  refine j_iload_n d_Hou_strike_0 rfl ?_
  refine z_if_lt (t := 18) d_Hou_strike_1 (by decide) (by first | omega | exact hw _ | exact hx _ _ | assumption) (fun h1 => ?_) (fun h1 => ?_)
  · refine z_iconst d_Hou_strike_18 ?_
    exact z_iret rfl d_Hou_strike_19 rfl (hnx (by omega))
  · refine j_iload_n d_Hou_strike_4 rfl ?_
    refine j_aload_n d_Hou_strike_5 rfl ?_
    refine gf_H_0_0 f_Hou_12 d_Hou_strike_6 ?_
    refine gf_H_1_0 f_Hou_134 d_Hou_strike_9 ?_
    refine gf_H_2_1 f_Hou_138 d_Hou_strike_12 ?_
    refine z_icmp_le (t := 20) d_Hou_strike_15 (by decide) (by first | omega | exact hw _ | exact hx _ _ | assumption) (by first | omega | exact hw _ | exact hx _ _ | assumption) (fun h15 => ?_) (fun h15 => ?_)
    · refine j_aload_n d_Hou_strike_20 rfl ?_
      refine gf_H_0_10 f_Hou_76 d_Hou_strike_21 ?_
      refine j_aload_n d_Hou_strike_24 rfl ?_
      refine gf_H_0_0 f_Hou_12 d_Hou_strike_25 ?_
      have hSb := ST_R2 (a := 0) (b := K 0) hKK (by omega) (by omega) (by omega)
      refine v_call1 d_Hou_strike_28 c_Hou_251 rfl ⟨_, rfl, rfl⟩ (Nat.le_of_ble_eq_true rfl) (E_H_PX (fun Q2 kz => t_Pap_strikes hS hLX (fun a b a0 ab bn => ST_R2 hKK a0 ab (by omega)) (fun s p s0 s1 p0 p1 => hL.tlR hKR s p s0 s1 p0 p1) (fun td2 br2 sk2 wd2 sq2 be2 hbe => kz _ _ _ _ _ _ _ _ _ _ _ _ _ _ _ _ _ _ _ _ _ _ _ _ _ _ _ _ _ _ _ _ rfl ?_)) rfl)
      refine j_istore_n d_Hou_strike_31 (by decide) ?_
      show SJ _ _ _ _ [_, _, _] _ _ _ _ _
      refine j_iload_n d_Hou_strike_32 rfl ?_
      refine z_if_ne (t := 38) d_Hou_strike_33 (by decide) (by first | omega | exact hw _ | exact hx _ _ | assumption) (fun h33 => ?_) (fun h33 => ?_)
      · refine j_aload_n d_Hou_strike_38 rfl ?_
        refine gf_H_0_10 f_Hou_76 d_Hou_strike_39 ?_
        refine j_aload_n d_Hou_strike_42 rfl ?_
        refine gf_H_0_0 f_Hou_12 d_Hou_strike_43 ?_
        refine gf_H_1_0 f_Hou_134 d_Hou_strike_46 ?_
        refine v_call1 d_Hou_strike_49 c_Hou_255 rfl ⟨_, rfl, rfl⟩ (Nat.le_of_ble_eq_true rfl) (E_H_PX (fun Q2 kz => t_Pap_chooseStruck (K := K) (x := x) hn0 hn1 hrs hbe (fun a b a0 ab bn => ST_R2 hKK a0 ab (by omega)) (fun xk2 oq2 hxk => kz _ _ _ _ _ _ _ _ _ _ _ _ _ _ _ _ _ _ _ _ _ _ _ _ _ _ _ _ _ _ _ _ rfl ?_)) rfl)
        have hxw := hxk (w - 1) (by omega) (by omega)
        have hlc2 : lcX K (K 0) x (w - 1) = 0 ∨ lcX K (K 0) x (w - 1) = 1 := lc_R (K := K) (a := 0) (b := K 0) (x := x) (j := w - 1) (by omega) (by omega)
        refine j_aload_n d_Hou_strike_52 rfl ?_
        refine gf_H_0_10 f_Hou_76 d_Hou_strike_53 ?_
        refine gf_H_62_10 f_Hou_259 d_Hou_strike_56 ?_
        refine j_iload_n d_Hou_strike_59 rfl ?_
        refine z_iconst d_Hou_strike_60 ?_
        refine z_isub d_Hou_strike_61 ?_
        refine al_H_63 d_Hou_strike_62 (by omega) (by omega) ?_
        refine z_if_eq (t := 70) d_Hou_strike_63 (by decide) (by show R32 (xk2 (w - 1)); rw [hxw]; show R32 (lcX K rn x (w - 1)); rw [hrn]; show R32 (lcX K (K 0) x (w - 1)); omega) (fun h63 => ?_) (fun h63 => ?_)
        · refine z_iconst d_Hou_strike_70 ?_
          exact z_iret rfl d_Hou_strike_71 (by unfold stR; rw [if_neg (by omega), if_neg (by omega)]; have h63b : xk2 (w - 1) = 0 := h63; rw [hxw] at h63b; have h63c : lcX K (K 0) x (w - 1) = 0 := (by rw [← hrn]; exact h63b); show _ = lcX K (K 0) x (w - 1); omega) (hQ (by omega) _ _ _ _ _ _ _ _ _ _ h7)
        · refine z_iconst d_Hou_strike_66 ?_
          refine j_goto (t := 71) d_Hou_strike_67 (by decide) ?_
          exact z_iret rfl d_Hou_strike_71 (by unfold stR; rw [if_neg (by omega), if_neg (by omega)]; have h63b : ¬ xk2 (w - 1) = 0 := h63; rw [hxw] at h63b; have h63c : ¬ lcX K (K 0) x (w - 1) = 0 := (by rw [← hrn]; exact h63b); show _ = lcX K (K 0) x (w - 1); omega) (hQ (by omega) _ _ _ _ _ _ _ _ _ _ h7)
      · refine j_iload_n d_Hou_strike_36 rfl ?_
        exact z_iret rfl d_Hou_strike_37 (by unfold stR; rw [if_neg (by omega), if_pos (by omega), hrn]) (hQ (by omega) _ _ _ _ _ _ _ _ _ _ h7)
    · refine z_iconst d_Hou_strike_18 ?_
      exact z_iret rfl d_Hou_strike_19 rfl (hnx (by omega))
theorem t_Hou_run {g : Bool} {d : Nat} {Q : List xM → Option Value → Prop} {hdn bl sp su lc fo rn rl rp pz pn fl td br dz ez rdn rlt rbr fz : Int} {rs rm rd ro tm kp by_ tk ps pv pw sk wd dk dl dg rsk wr rf : Int → Int} {qI aI bI cI gI pI yI : Nat → Int} {qF aF bF cF gF eF fF pF yF nF : Nat → Int → Int} {pr be wy : Int → Int → Int} {lx qx ax bx cx : Nat → Option Nat} {ts : List TD} {K : Int → Int} (hS : SI K lc fo rn rl rp rs rm rd tm) (hL : LB K lx ts) (h7 : R32 (pI 7)) {w : Int} (r1 : R32 w) (hnx : ¬ (0 ≤ w ∧ w ≤ 1) → Q (W_H hdn bl sp su lc fo rn rl rp pz pn fl td br dz ez rdn rlt rbr fz rs rm rd ro tm kp by_ tk ps pv pw sk wd dk dl dg rsk wr rf qI aI bI cI gI pI yI qF aF bF cF gF eF fF pF yF nF pr be wy lx qx ax bx cx ts) (some (.int (ii (-1))))) (hQ : 0 ≤ w ∧ w ≤ 1 → ∀ (rl rp td br : Int) (rm rd ro sk wd : Int → Int) (pI yI : Nat → Int) (pF yF : Nat → Int → Int) (pr be : Int → Int → Int), R32 (pI 7) → RI K rn rl rp rs rm rd → Q (W_H hdn bl sp su lc fo rn rl rp pz pn fl td br dz ez rdn rlt rbr fz rs rm rd ro tm kp by_ tk ps pv pw sk wd dk dl dg rsk wr rf qI aI bI cI gI pI yI qF aF bF cF gF eF fF pF yF nF pr be wy lx qx ax bx cx ts) (some (.int (ii (if w = 0 then (rnO K (K 0 - 0).toNat 0 (0, -1)).1 else (rnO K (K 0 - 0).toNat 0 (0, -1)).2)))))  : CT g m_Hou_run (d + 4) [.ref 0, .int (ii w)] (W_H hdn bl sp su lc fo rn rl rp pz pn fl td br dz ez rdn rlt rbr fz rs rm rd ro tm kp by_ tk ps pv pw sk wd dk dl dg rsk wr rf qI aI bI cI gI pI yI qF aF bF cF gF eF fF pF yF nF pr be wy lx qx ax bx cx ts) 0 0 Q := by
  refine CT.of (by decide) (Nat.le_of_ble_eq_true rfl) ?_
  show SJ _ _ _ _ [some (.ref 0), some (.int (ii w))] [] _ _ _ _
  have hKR := hS.2.1
  have hKK := hL.kok hKR
  have hLX := hL.lxE hKR
  have hn20 := hKR.1
  obtain ⟨hR, -, htm0, htm1, htm2, hlc, hfo⟩ := id hS
  obtain ⟨hrn, ⟨hn0, hn1⟩, hrs, hrp, hpu⟩ := id hR
  obtain ⟨r2, r3, hF⟩ : ∃ r2 r3, rnO K (K 0 - 0).toNat 0 (0, -1) = (r2, r3) := ⟨_, _, rfl⟩
  rw [hF] at hQ
  refine j_iload_n d_Hou_run_0 rfl ?_
  refine z_if_lt (t := 9) d_Hou_run_1 (by decide) (by first | omega | exact hw _ | exact hx _ _ | assumption) (fun h1 => ?_) (fun h1 => ?_)
  · refine z_iconst d_Hou_run_9 ?_
    exact z_iret rfl d_Hou_run_10 rfl (hnx (by omega))
  · refine j_iload_n d_Hou_run_4 rfl ?_
    refine z_iconst d_Hou_run_5 ?_
    refine z_icmp_le (t := 11) d_Hou_run_6 (by decide) (by first | omega | exact hw _ | exact hx _ _ | assumption) (by first | omega | exact hw _ | exact hx _ _ | assumption) (fun h6 => ?_) (fun h6 => ?_)
    · refine j_aload_n d_Hou_run_11 rfl ?_
      refine gf_H_0_10 f_Hou_76 d_Hou_run_12 ?_
      refine j_aload_n d_Hou_run_15 rfl ?_
      refine gf_H_0_0 f_Hou_12 d_Hou_run_16 ?_
      refine gf_H_1_0 f_Hou_134 d_Hou_run_19 ?_
      refine v_call1 d_Hou_run_22 c_Hou_262 rfl ⟨_, rfl, rfl⟩ (Nat.le_of_ble_eq_true rfl) (E_H_PX (fun Q2 kz => t_Pap_findRun hrn hn0 hn1 hR hF (fun rl2 rp2 rm2 rd2 ro2 hR2 => kz _ _ _ _ _ _ _ _ _ _ _ _ _ _ _ _ _ _ _ _ _ _ _ _ _ _ _ _ _ _ _ _ rfl ?_)) rfl)
      refine j_iload_n d_Hou_run_25 rfl ?_
      refine z_if_ne (t := 39) d_Hou_run_26 (by decide) (by first | omega | exact hw _ | exact hx _ _ | assumption) (fun h26 => ?_) (fun h26 => ?_)
      · refine j_aload_n d_Hou_run_39 rfl ?_
        refine gf_H_0_10 f_Hou_76 d_Hou_run_40 ?_
        refine gf_H_62_3 f_Hou_268 d_Hou_run_43 ?_
        first
        | exact z_iret rfl d_Hou_run_46 (by rw [if_pos (by omega)]; rfl) (hQ (by omega) _ _ _ _ _ _ _ _ _ _ _ _ _ _ _ h7 hR2)
        | exact z_iret rfl d_Hou_run_46 (by rw [if_neg (by omega)]; rfl) (hQ (by omega) _ _ _ _ _ _ _ _ _ _ _ _ _ _ _ h7 hR2)
      · refine j_aload_n d_Hou_run_29 rfl ?_
        refine gf_H_0_10 f_Hou_76 d_Hou_run_30 ?_
        refine gf_H_62_2 f_Hou_265 d_Hou_run_33 ?_
        refine j_goto (t := 46) d_Hou_run_36 (by decide) ?_
        first
        | exact z_iret rfl d_Hou_run_46 (by rw [if_pos (by omega)]; rfl) (hQ (by omega) _ _ _ _ _ _ _ _ _ _ _ _ _ _ _ h7 hR2)
        | exact z_iret rfl d_Hou_run_46 (by rw [if_neg (by omega)]; rfl) (hQ (by omega) _ _ _ _ _ _ _ _ _ _ _ _ _ _ _ h7 hR2)
    · refine z_iconst d_Hou_run_9 ?_
      exact z_iret rfl d_Hou_run_10 rfl (hnx (by omega))
theorem t_Hou_fits {g : Bool} {d : Nat} {Q : List xM → Option Value → Prop} {hdn bl sp su lc fo rn rl rp pz pn fl td br dz ez rdn rlt rbr fz : Int} {rs rm rd ro tm kp by_ tk ps pv pw sk wd dk dl dg rsk wr rf : Int → Int} {qI aI bI cI gI pI yI : Nat → Int} {qF aF bF cF gF eF fF pF yF nF : Nat → Int → Int} {pr be wy : Int → Int → Int} {lx qx ax bx cx : Nat → Option Nat} {ts : List TD} {K : Int → Int} (hS : SI K lc fo rn rl rp rs rm rd tm) (hL : LB K lx ts) (h7 : R32 (pI 7)) {p : Int} (r1 : R32 p) (hf : ¬ (0 ≤ p ∧ p < K 0) → Q (W_H hdn bl sp su lc fo rn rl rp pz pn fl td br dz ez rdn rlt rbr fz rs rm rd ro tm kp by_ tk ps pv pw sk wd dk dl dg rsk wr rf qI aI bI cI gI pI yI qF aF bF cF gF eF fF pF yF nF pr be wy lx qx ax bx cx ts) (some (.int (ii (-1))))) (hQ : 0 ≤ p ∧ p < K 0 → ∀ (td br : Int) (sk wd : Int → Int) (pI yI : Nat → Int) (pF yF : Nat → Int → Int) (pr be : Int → Int → Int), R32 (pI 7) → Q (W_H hdn bl sp su lc fo rn rl rp pz pn fl td br dz ez rdn rlt rbr fz rs rm rd ro tm kp by_ tk ps pv pw sk wd dk dl dg rsk wr rf qI aI bI cI gI pI yI qF aF bF cF gF eF fF pF yF nF pr be wy lx qx ax bx cx ts) (some (.int (ftF K p 6))))  : CT g m_Hou_fits (d + 4) [.ref 0, .int (ii p)] (W_H hdn bl sp su lc fo rn rl rp pz pn fl td br dz ez rdn rlt rbr fz rs rm rd ro tm kp by_ tk ps pv pw sk wd dk dl dg rsk wr rf qI aI bI cI gI pI yI qF aF bF cF gF eF fF pF yF nF pr be wy lx qx ax bx cx ts) 0 0 Q := by
  refine CT.of (by decide) (Nat.le_of_ble_eq_true rfl) ?_
  show SJ _ _ _ _ [some (.ref 0), some (.int (ii p))] [] _ _ _ _
  have hKR := hS.2.1
  have hKK := hL.kok hKR
  have hLX := hL.lxE hKR
  have hn20 := hKR.1
  obtain ⟨hR, -, htm0, htm1, htm2, hlc, hfo⟩ := id hS
  obtain ⟨hrn, ⟨hn0, hn1⟩, hrs, hrp, hpu⟩ := id hR
  refine j_aload_n d_Hou_fits_0 rfl ?_
  refine gf_H_0_0 f_Hou_12 d_Hou_fits_1 ?_
  refine gf_H_1_0 f_Hou_134 d_Hou_fits_4 ?_
  refine j_iload_n d_Hou_fits_7 rfl ?_
  refine v_call1 d_Hou_fits_8 c_Hou_216 rfl ⟨_, rfl, rfl⟩ (Nat.le_of_ble_eq_true rfl) (E_H_Row (fun Q2 kz => t_Row_has r1 (by omega) (fun h8 => kz _ _ _ _ _ _ _ _ rfl ?_) (fun h8 => kz _ _ _ _ _ _ _ _ rfl ?_)) rfl)
  · refine z_if_eq (t := 32) d_Hou_fits_11 (by decide) (by first | omega | exact hw _ | exact hx _ _ | assumption) (fun h => absurd h (by decide)) (fun _ => ?_)
    refine j_aload_n d_Hou_fits_14 rfl ?_
    refine gf_H_0_10 f_Hou_76 d_Hou_fits_15 ?_
    refine j_aload_n d_Hou_fits_18 rfl ?_
    refine gf_H_0_0 f_Hou_12 d_Hou_fits_19 ?_
    refine gf_H_1_0 f_Hou_134 d_Hou_fits_22 ?_
    refine j_iload_n d_Hou_fits_25 rfl ?_
    refine v_call2 d_Hou_fits_26 c_Hou_271 rfl ⟨_, rfl, rfl⟩ (Nat.le_of_ble_eq_true rfl) (E_H_PX (fun Q2 kz => t_Pap_fitting hrn hn0 hn1 (fun j j0 j1 => hKR.2.1 j j0 (by omega)) h8.1 h8.2 (fun j j0 j1 => (hrs j j0 j1).1) (fun yl2 yp2 ys2 ym2 yd2 yo2 => kz _ _ _ _ _ _ _ _ _ _ _ _ _ _ _ _ _ _ _ _ _ _ _ _ _ _ _ _ _ _ _ _ rfl ?_)) rfl)
    refine j_goto (t := 33) d_Hou_fits_29 (by decide) ?_
    exact j_ireturn rfl d_Hou_fits_33 (hQ (by omega) _ _ _ _ _ _ _ _ _ _ h7)
  · refine z_if_eq (t := 32) d_Hou_fits_11 (by decide) (by first | omega | exact hw _ | exact hx _ _ | assumption) (fun _ => ?_) (fun h => absurd h (by decide))
    refine z_iconst d_Hou_fits_32 ?_
    exact z_iret rfl d_Hou_fits_33 rfl (hf (by omega))
theorem t_Hou_game {g : Bool} {d : Nat} {Q : List xM → Option Value → Prop} {hdn bl sp su lc fo rn rl rp pz pn fl td br dz ez rdn rlt rbr fz : Int} {rs rm rd ro tm kp by_ tk ps pv pw sk wd dk dl dg rsk wr rf : Int → Int} {qI aI bI cI gI pI yI : Nat → Int} {qF aF bF cF gF eF fF pF yF nF : Nat → Int → Int} {pr be wy : Int → Int → Int} {lx qx ax bx cx : Nat → Option Nat} {ts : List TD} {K : Int → Int} (hS : SI K lc fo rn rl rp rs rm rd tm) (hL : LB K lx ts) (h7 : R32 (pI 7)) {w : Int} (r1 : R32 w) (hnx : ¬ (0 ≤ w ∧ w ≤ 1) ∨ (w = 1 ∧ K 0 = 0) → Q (W_H hdn bl sp su lc fo rn rl rp pz pn fl td br dz ez rdn rlt rbr fz rs rm rd ro tm kp by_ tk ps pv pw sk wd dk dl dg rsk wr rf qI aI bI cI gI pI yI qF aF bF cF gF eF fF pF yF nF pr be wy lx qx ax bx cx ts) (some (.int (ii (-100000))))) (hQ : ¬ (¬ (0 ≤ w ∧ w ≤ 1) ∨ (w = 1 ∧ K 0 = 0)) → ∀ (td br : Int) (sk wd : Int → Int) (pI yI : Nat → Int) (pF yF : Nat → Int → Int) (pr be : Int → Int → Int), R32 (pI 7) → Q (W_H hdn bl sp su lc fo rn rl rp pz pn fl td br dz ez rdn rlt rbr fz rs rm rd ro tm kp by_ tk ps pv pw sk wd dk dl dg rsk wr rf qI aI bI cI gI pI yI qF aF bF cF gF eF fF pF yF nF pr be wy lx qx ax bx cx ts) (some (.int (ii (gmR K w)))))  : CT g m_Hou_game (d + 6) [.ref 0, .int (ii w)] (W_H hdn bl sp su lc fo rn rl rp pz pn fl td br dz ez rdn rlt rbr fz rs rm rd ro tm kp by_ tk ps pv pw sk wd dk dl dg rsk wr rf qI aI bI cI gI pI yI qF aF bF cF gF eF fF pF yF nF pr be wy lx qx ax bx cx ts) 0 0 Q := by
  refine CT.of (by decide) (Nat.le_of_ble_eq_true rfl) ?_
  show SJ _ _ _ _ [some (.ref 0), some (.int (ii w))] [] _ _ _ _
  have hKR := hS.2.1
  have hKK := hL.kok hKR
  have hLX := hL.lxE hKR
  have hn20 := hKR.1
  obtain ⟨hR, -, htm0, htm1, htm2, hlc, hfo⟩ := id hS
  obtain ⟨hrn, ⟨hn0, hn1⟩, hrs, hrp, hpu⟩ := id hR
  refine j_iload_n d_Hou_game_0 rfl ?_
  refine z_if_lt (t := 27) d_Hou_game_1 (by decide) (by first | omega | exact hw _ | exact hx _ _ | assumption) (fun h1 => ?_) (fun h1 => ?_)
  · refine z_ldcw (w := -100000) d_Hou_game_27 k_Hou_289 (by decide) ?_
    exact z_iret rfl d_Hou_game_30 rfl (hnx (by omega))
  · refine j_iload_n d_Hou_game_4 rfl ?_
    refine z_iconst d_Hou_game_5 ?_
    refine z_icmp_gt (t := 27) d_Hou_game_6 (by decide) (by first | omega | exact hw _ | exact hx _ _ | assumption) (by first | omega | exact hw _ | exact hx _ _ | assumption) (fun h6 => ?_) (fun h6 => ?_)
    · refine z_ldcw (w := -100000) d_Hou_game_27 k_Hou_289 (by decide) ?_
      exact z_iret rfl d_Hou_game_30 rfl (hnx (by omega))
    · refine j_iload_n d_Hou_game_9 rfl ?_
      refine z_iconst d_Hou_game_10 ?_
      refine z_icmp_ne (t := 31) d_Hou_game_11 (by decide) (by first | omega | exact hw _ | exact hx _ _ | assumption) (by first | omega | exact hw _ | exact hx _ _ | assumption) (fun h11 => ?_) (fun h11 => ?_)
      · refine j_aload_n d_Hou_game_31 rfl ?_
        refine gf_H_0_10 f_Hou_76 d_Hou_game_32 ?_
        refine j_aload_n d_Hou_game_35 rfl ?_
        refine gf_H_0_0 f_Hou_12 d_Hou_game_36 ?_
        refine v_call1 d_Hou_game_39 c_Hou_290 rfl ⟨_, rfl, rfl⟩ (Nat.le_of_ble_eq_true rfl) (E_H_PX (fun Q2 kz => t_Pap_play hS hLX (fun a b a0 ab bn => GM_R2 hKK a0 ab (by omega)) (fun s p s0 s1 p0 p1 => hL.tlR hKR s p s0 s1 p0 p1) (fun td2 br2 sk2 wd2 sq2 be2 => kz _ _ _ _ _ _ _ _ _ _ _ _ _ _ _ _ _ _ _ _ _ _ _ _ _ _ _ _ _ _ _ _ rfl ?_)) rfl)
        refine j_iload_n d_Hou_game_42 rfl ?_
        refine z_if_ne (t := 56) d_Hou_game_43 (by decide) (by first | omega | exact hw _ | exact hx _ _ | assumption) (fun h43 => ?_) (fun h43 => ?_)
        · have hgm : gmR K w = tkE K 0 (K 0) := by unfold gmR; rw [if_neg (by omega), if_neg (by omega)]; rfl
          refine j_aload_n d_Hou_game_56 rfl ?_
          refine gf_H_0_10 f_Hou_76 d_Hou_game_57 ?_
          refine gf_H_62_5 f_Hou_297 d_Hou_game_60 ?_
          first
          | exact z_iret rfl d_Hou_game_63 (show GM K 0 rn = gmR K w by rw [hrn, hgm]) (hQ (by omega) _ _ _ _ _ _ _ _ _ _ h7)
          | exact z_iret rfl d_Hou_game_63 (show (if rn = 0 then 0 else tkE K 0 rn) = gmR K w by rw [if_neg (by omega), hrn, hgm]) (hQ (by omega) _ _ _ _ _ _ _ _ _ _ h7)
        · have hgm : gmR K w = GM K 0 (K 0) := by unfold gmR; rw [if_neg (by omega), if_pos (by omega)]
          refine j_aload_n d_Hou_game_46 rfl ?_
          refine gf_H_0_10 f_Hou_76 d_Hou_game_47 ?_
          refine gf_H_62_4 f_Hou_294 d_Hou_game_50 ?_
          refine j_goto (t := 63) d_Hou_game_53 (by decide) ?_
          first
          | exact z_iret rfl d_Hou_game_63 (show GM K 0 rn = gmR K w by rw [hrn, hgm]) (hQ (by omega) _ _ _ _ _ _ _ _ _ _ h7)
          | exact z_iret rfl d_Hou_game_63 (show (if rn = 0 then 0 else tkE K 0 rn) = gmR K w by rw [if_neg (by omega), hrn, hgm]) (hQ (by omega) _ _ _ _ _ _ _ _ _ _ h7)
      · refine j_aload_n d_Hou_game_14 rfl ?_
        refine gf_H_0_0 f_Hou_12 d_Hou_game_15 ?_
        refine gf_H_1_0 f_Hou_134 d_Hou_game_18 ?_
        refine gf_H_2_1 f_Hou_138 d_Hou_game_21 ?_
        refine z_if_ne (t := 31) d_Hou_game_24 (by decide) (by first | omega | exact hw _ | exact hx _ _ | assumption) (fun h24 => ?_) (fun h24 => ?_)
        · refine j_aload_n d_Hou_game_31 rfl ?_
          refine gf_H_0_10 f_Hou_76 d_Hou_game_32 ?_
          refine j_aload_n d_Hou_game_35 rfl ?_
          refine gf_H_0_0 f_Hou_12 d_Hou_game_36 ?_
          refine v_call1 d_Hou_game_39 c_Hou_290 rfl ⟨_, rfl, rfl⟩ (Nat.le_of_ble_eq_true rfl) (E_H_PX (fun Q2 kz => t_Pap_play hS hLX (fun a b a0 ab bn => GM_R2 hKK a0 ab (by omega)) (fun s p s0 s1 p0 p1 => hL.tlR hKR s p s0 s1 p0 p1) (fun td2 br2 sk2 wd2 sq2 be2 => kz _ _ _ _ _ _ _ _ _ _ _ _ _ _ _ _ _ _ _ _ _ _ _ _ _ _ _ _ _ _ _ _ rfl ?_)) rfl)
          refine j_iload_n d_Hou_game_42 rfl ?_
          refine z_if_ne (t := 56) d_Hou_game_43 (by decide) (by first | omega | exact hw _ | exact hx _ _ | assumption) (fun h43 => ?_) (fun h43 => ?_)
          · have hgm : gmR K w = tkE K 0 (K 0) := by unfold gmR; rw [if_neg (by omega), if_neg (by omega)]; rfl
            refine j_aload_n d_Hou_game_56 rfl ?_
            refine gf_H_0_10 f_Hou_76 d_Hou_game_57 ?_
            refine gf_H_62_5 f_Hou_297 d_Hou_game_60 ?_
            first
            | exact z_iret rfl d_Hou_game_63 (show GM K 0 rn = gmR K w by rw [hrn, hgm]) (hQ (by omega) _ _ _ _ _ _ _ _ _ _ h7)
            | exact z_iret rfl d_Hou_game_63 (show (if rn = 0 then 0 else tkE K 0 rn) = gmR K w by rw [if_neg (by omega), hrn, hgm]) (hQ (by omega) _ _ _ _ _ _ _ _ _ _ h7)
          · have hgm : gmR K w = GM K 0 (K 0) := by unfold gmR; rw [if_neg (by omega), if_pos (by omega)]
            refine j_aload_n d_Hou_game_46 rfl ?_
            refine gf_H_0_10 f_Hou_76 d_Hou_game_47 ?_
            refine gf_H_62_4 f_Hou_294 d_Hou_game_50 ?_
            refine j_goto (t := 63) d_Hou_game_53 (by decide) ?_
            first
            | exact z_iret rfl d_Hou_game_63 (show GM K 0 rn = gmR K w by rw [hrn, hgm]) (hQ (by omega) _ _ _ _ _ _ _ _ _ _ h7)
            | exact z_iret rfl d_Hou_game_63 (show (if rn = 0 then 0 else tkE K 0 rn) = gmR K w by rw [if_neg (by omega), hrn, hgm]) (hQ (by omega) _ _ _ _ _ _ _ _ _ _ h7)
        · refine z_ldcw (w := -100000) d_Hou_game_27 k_Hou_289 (by decide) ?_
          exact z_iret rfl d_Hou_game_30 rfl (hnx (by omega))
