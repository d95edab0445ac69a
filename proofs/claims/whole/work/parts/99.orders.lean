theorem t_Hou_imageN {g : Bool} {d : Nat} {Q : List xM → Option Value → Prop} {hdn bl sp su lc fo rn rl rp pz pn fl td br dz ez rdn rlt rbr fz : Int} {rs rm rd ro tm kp by_ tk ps pv pw sk wd dk dl dg rsk wr rf : Int → Int} {qI aI bI cI gI pI yI : Nat → Int} {qF aF bF cF gF eF fF pF yF nF : Nat → Int → Int} {pr be wy : Int → Int → Int} {lx qx ax bx cx : Nat → Option Nat} {ts : List TD} {k : Int} (r1 : R32 k) (hk : ¬ (0 ≤ k ∧ k ≤ 1)) (hf : Q (W_H hdn bl sp (-1) lc fo rn rl rp pz pn fl td br dz ez rdn rlt rbr fz rs rm rd ro tm kp by_ tk ps pv pw sk wd dk dl dg rsk wr (up rf (rix (-1)) (rf (rix (-1)) + 1)) qI aI bI cI gI pI yI qF aF bF cF gF eF fF pF yF nF pr be wy lx qx ax bx cx ts) (some (.int (ii (-1))))) : CT g m_Hou_image (d + 2) [.ref 0, .int (ii k)] (W_H hdn bl sp su lc fo rn rl rp pz pn fl td br dz ez rdn rlt rbr fz rs rm rd ro tm kp by_ tk ps pv pw sk wd dk dl dg rsk wr rf qI aI bI cI gI pI yI qF aF bF cF gF eF fF pF yF nF pr be wy lx qx ax bx cx ts) 0 0 Q := by
  refine CT.of (by decide) (Nat.le_of_ble_eq_true rfl) ?_
  show SJ _ _ _ _ [some (.ref 0), some (.int (ii k))] [] _ _ _ _
  refine j_iload_n d_Hou_image_0 rfl ?_
  refine z_if_lt (t := 9) d_Hou_image_1 (by decide) (by first | omega | exact hw _ | exact hx _ _ | assumption) (fun h1 => ?_) (fun h1 => ?_)
  · refine j_aload_n d_Hou_image_9 rfl ?_
    refine z_iconst d_Hou_image_10 ?_
    refine v_call1 d_Hou_image_11 c_Hou_111 rfl ⟨_, rfl, rfl⟩ (Nat.le_of_ble_eq_true rfl) (t_Hou_refuse (by omega) (by omega) ?_)
    exact z_iret rfl d_Hou_image_14 rfl hf
  · refine j_iload_n d_Hou_image_4 rfl ?_
    refine z_iconst d_Hou_image_5 ?_
    refine z_icmp_lt (t := 15) d_Hou_image_6 (by decide) (by first | omega | exact hw _ | exact hx _ _ | assumption) (by first | omega | exact hw _ | exact hx _ _ | assumption) (fun h6 => ?_) (fun h6 => ?_)
    · exfalso; omega
    · refine j_aload_n d_Hou_image_9 rfl ?_
      refine z_iconst d_Hou_image_10 ?_
      refine v_call1 d_Hou_image_11 c_Hou_111 rfl ⟨_, rfl, rfl⟩ (Nat.le_of_ble_eq_true rfl) (t_Hou_refuse (by omega) (by omega) ?_)
      exact z_iret rfl d_Hou_image_14 rfl hf
theorem t_Hou_backN {g : Bool} {d : Nat} {Q : List xM → Option Value → Prop} {hdn bl sp su lc fo rn rl rp pz pn fl td br dz ez rdn rlt rbr fz : Int} {rs rm rd ro tm kp by_ tk ps pv pw sk wd dk dl dg rsk wr rf : Int → Int} {qI aI bI cI gI pI yI : Nat → Int} {qF aF bF cF gF eF fF pF yF nF : Nat → Int → Int} {pr be wy : Int → Int → Int} {lx qx ax bx cx : Nat → Option Nat} {ts : List TD} {k : Int} (r1 : R32 k) (hk : ¬ (0 ≤ k ∧ k ≤ 1)) (hf : Q (W_H hdn bl sp (-1) lc fo rn rl rp pz pn fl td br dz ez rdn rlt rbr fz rs rm rd ro tm kp by_ tk ps pv pw sk wd dk dl dg rsk wr (up rf (rix (-1)) (rf (rix (-1)) + 1)) qI aI bI cI gI pI yI qF aF bF cF gF eF fF pF yF nF pr be wy lx qx ax bx cx ts) (some (.int (ii (-1))))) : CT g m_Hou_back (d + 2) [.ref 0, .int (ii k)] (W_H hdn bl sp su lc fo rn rl rp pz pn fl td br dz ez rdn rlt rbr fz rs rm rd ro tm kp by_ tk ps pv pw sk wd dk dl dg rsk wr rf qI aI bI cI gI pI yI qF aF bF cF gF eF fF pF yF nF pr be wy lx qx ax bx cx ts) 0 0 Q := by
  refine CT.of (by decide) (Nat.le_of_ble_eq_true rfl) ?_
  show SJ _ _ _ _ [some (.ref 0), some (.int (ii k))] [] _ _ _ _
  refine j_iload_n d_Hou_back_0 rfl ?_
  refine z_if_lt (t := 9) d_Hou_back_1 (by decide) (by first | omega | exact hw _ | exact hx _ _ | assumption) (fun h1 => ?_) (fun h1 => ?_)
  · refine j_aload_n d_Hou_back_9 rfl ?_
    refine z_iconst d_Hou_back_10 ?_
    refine v_call1 d_Hou_back_11 c_Hou_111 rfl ⟨_, rfl, rfl⟩ (Nat.le_of_ble_eq_true rfl) (t_Hou_refuse (by omega) (by omega) ?_)
    exact z_iret rfl d_Hou_back_14 rfl hf
  · refine j_iload_n d_Hou_back_4 rfl ?_
    refine z_iconst d_Hou_back_5 ?_
    refine z_icmp_lt (t := 15) d_Hou_back_6 (by decide) (by first | omega | exact hw _ | exact hx _ _ | assumption) (by first | omega | exact hw _ | exact hx _ _ | assumption) (fun h6 => ?_) (fun h6 => ?_)
    · exfalso; omega
    · refine j_aload_n d_Hou_back_9 rfl ?_
      refine z_iconst d_Hou_back_10 ?_
      refine v_call1 d_Hou_back_11 c_Hou_111 rfl ⟨_, rfl, rfl⟩ (Nat.le_of_ble_eq_true rfl) (t_Hou_refuse (by omega) (by omega) ?_)
      exact z_iret rfl d_Hou_back_14 rfl hf
theorem t_Hou_image0 {g : Bool} {d : Nat} {Q : List xM → Option Value → Prop} {hdn bl sp su lc fo rn rl rp pz pn fl td br dz ez rdn rlt rbr fz : Int} {rs rm rd ro tm kp by_ tk ps pv pw sk wd dk dl dg rsk wr rf : Int → Int} {qI aI bI cI gI pI yI : Nat → Int} {qF aF bF cF gF eF fF pF yF nF : Nat → Int → Int} {pr be wy : Int → Int → Int} {lx qx ax bx cx : Nat → Option Nat} {ts : List TD} {K : Int → Int} (hS : SI K lc fo rn rl rp rs rm rd tm) (hL : LB K lx ts) (hXV : LXV lx ts) (hQ : ∀ (aI : Nat → Int) (aF : Nat → Int → Int) (ax : Nat → Option Nat), SI K (aI 0) (aI 1) (aI 2) (aI 3) (aI 4) (aF 0) (aF 1) (aF 2) (aF 4) → LB K ax ts → LXV ax ts → Q (W_H hdn bl sp 0 lc fo rn rl rp pz pn fl td br dz ez rdn rlt rbr fz rs rm rd ro tm (up kp 0 1) by_ tk ps pv pw sk wd dk dl dg rsk wr rf qI aI bI cI gI pI yI qF aF bF cF gF eF fF pF yF nF pr be wy lx qx ax bx cx ts) (some (.int (ii 0))))  : CT g m_Hou_image (d + 3) [.ref 0, .int (ii 0)] (W_H hdn bl sp su lc fo rn rl rp pz pn fl td br dz ez rdn rlt rbr fz rs rm rd ro tm kp by_ tk ps pv pw sk wd dk dl dg rsk wr rf qI aI bI cI gI pI yI qF aF bF cF gF eF fF pF yF nF pr be wy lx qx ax bx cx ts) 0 0 Q := by
  refine CT.of (by decide) (Nat.le_of_ble_eq_true rfl) ?_
  show SJ _ _ _ _ [some (.ref 0), some (.int (ii 0))] [] _ _ _ _
  refine j_iload_n d_Hou_image_0 rfl ?_
  refine z_if_lt (t := 9) d_Hou_image_1 (by decide) (by first | omega | exact hw _ | exact hx _ _ | assumption) (fun h => absurd h (by decide)) (fun _ => ?_)
  refine j_iload_n d_Hou_image_4 rfl ?_
  refine z_iconst d_Hou_image_5 ?_
  refine z_icmp_lt (t := 15) d_Hou_image_6 (by decide) (by first | omega | exact hw _ | exact hx _ _ | assumption) (by first | omega | exact hw _ | exact hx _ _ | assumption) (fun _ => ?_) (fun h => absurd h (by decide))
  refine j_aload_n d_Hou_image_15 rfl ?_
  refine gf_H_0_2 f_Hou_19 d_Hou_image_16 ?_
  refine j_iload_n d_Hou_image_19 rfl ?_
  refine z_aald d_Hou_image_20 rfl (by decide) (by omega) (by omega) (by omega) ?_
  show SJ _ _ _ _ _ (.ref 132 :: _) _ _ _ _
  refine j_aload_n d_Hou_image_21 rfl ?_
  refine gf_H_0_0 f_Hou_12 d_Hou_image_22 ?_
  refine v_call1 d_Hou_image_25 c_Hou_321 rfl ⟨_, rfl, rfl⟩ (Nat.le_of_ble_eq_true rfl) (E_H_SCXS (fun Q2 kz => t_Sta_copyFrom hXV (fun lz hlz => kz _ _ _ _ _ _ _ _ _ _ _ _ rfl ?_)) rfl)
  refine j_aload_n d_Hou_image_28 rfl ?_
  refine gf_H_0_3 f_Hou_23 d_Hou_image_29 ?_
  refine j_iload_n d_Hou_image_32 rfl ?_
  refine z_iconst d_Hou_image_33 ?_
  refine as_H_18 d_Hou_image_34 (by omega) (by omega) (by first | exact Or.inl rfl | exact Or.inr rfl | assumption | omega) ?_
  refine j_aload_n d_Hou_image_35 rfl ?_
  refine z_iconst d_Hou_image_36 ?_
  refine v_call1 d_Hou_image_37 c_Hou_121 rfl ⟨_, rfl, rfl⟩ (Nat.le_of_ble_eq_true rfl) (t_Hou_grant  ?_)
  exact z_iret rfl d_Hou_image_40 rfl (hQ _ _ _ hS.copy (hL.texts (lx' := lz) (ts' := ts) hS.2.1.2.2.2.2.2.1.2 hlz (fun j t h => h)) (hXV.eq hlz))
theorem t_Hou_back0 {g : Bool} {d : Nat} {Q : List xM → Option Value → Prop} {hdn bl sp su lc fo rn rl rp pz pn fl td br dz ez rdn rlt rbr fz : Int} {rs rm rd ro tm kp by_ tk ps pv pw sk wd dk dl dg rsk wr rf : Int → Int} {qI aI bI cI gI pI yI : Nat → Int} {qF aF bF cF gF eF fF pF yF nF : Nat → Int → Int} {pr be wy : Int → Int → Int} {lx qx ax bx cx : Nat → Option Nat} {ts : List TD} {KI : Int → Int} (hk01 : kp 0 = 0 ∨ kp 0 = 1) (hA : kp 0 = 1 → SI KI (aI 0) (aI 1) (aI 2) (aI 3) (aI 4) (aF 0) (aF 1) (aF 2) (aF 4) ∧ LB KI ax ts) (hAX : LXV ax ts) (h2 : kp 0 = 0 → Q (W_H hdn bl sp (-2) lc fo rn rl rp pz pn fl td br dz ez rdn rlt rbr fz rs rm rd ro tm kp by_ tk ps pv pw sk wd dk dl dg rsk wr (up rf (rix (-2)) (rf (rix (-2)) + 1)) qI aI bI cI gI pI yI qF aF bF cF gF eF fF pF yF nF pr be wy lx qx ax bx cx ts) (some (.int (ii (-2))))) (hQ : kp 0 = 1 → ∀ (lc fo rn rl rp : Int) (rs rm rd ro tm : Int → Int) (lx : Nat → Option Nat), SI KI lc fo rn rl rp rs rm rd tm → LB KI lx ts → LXV lx ts → Q (W_H hdn bl sp 0 lc fo rn rl rp pz pn fl td br 0 ez rdn rlt rbr fz rs rm rd ro tm kp by_ tk ps pv pw sk wd dk dl dg rsk wr rf qI aI bI cI gI pI yI qF aF bF cF gF eF fF pF yF nF pr be wy lx qx ax bx cx ts) (some (.int (ii 0))))  : CT g m_Hou_back (d + 3) [.ref 0, .int (ii 0)] (W_H hdn bl sp su lc fo rn rl rp pz pn fl td br dz ez rdn rlt rbr fz rs rm rd ro tm kp by_ tk ps pv pw sk wd dk dl dg rsk wr rf qI aI bI cI gI pI yI qF aF bF cF gF eF fF pF yF nF pr be wy lx qx ax bx cx ts) 0 0 Q := by
  refine CT.of (by decide) (Nat.le_of_ble_eq_true rfl) ?_
  show SJ _ _ _ _ [some (.ref 0), some (.int (ii 0))] [] _ _ _ _
  refine j_iload_n d_Hou_back_0 rfl ?_
  refine z_if_lt (t := 9) d_Hou_back_1 (by decide) (by first | omega | exact hw _ | exact hx _ _ | assumption) (fun h => absurd h (by decide)) (fun _ => ?_)
  refine j_iload_n d_Hou_back_4 rfl ?_
  refine z_iconst d_Hou_back_5 ?_
  refine z_icmp_lt (t := 15) d_Hou_back_6 (by decide) (by first | omega | exact hw _ | exact hx _ _ | assumption) (by first | omega | exact hw _ | exact hx _ _ | assumption) (fun _ => ?_) (fun h => absurd h (by decide))
  refine j_aload_n d_Hou_back_15 rfl ?_
  refine gf_H_0_3 f_Hou_23 d_Hou_back_16 ?_
  refine j_iload_n d_Hou_back_19 rfl ?_
  refine al_H_18 d_Hou_back_20 (by omega) (by omega) ?_
  refine z_if_ne (t := 31) d_Hou_back_21 (by decide) (by first | omega | exact hw _ | exact hx _ _ | assumption) (fun h21 => ?_) (fun h21 => ?_)
  · have hk1 : kp 0 = 1 := by omega
    obtain ⟨hS, hL⟩ := hA hk1
    refine j_aload_n d_Hou_back_31 rfl ?_
    refine gf_H_0_0 f_Hou_12 d_Hou_back_32 ?_
    refine j_aload_n d_Hou_back_35 rfl ?_
    refine gf_H_0_2 f_Hou_19 d_Hou_back_36 ?_
    refine j_iload_n d_Hou_back_39 rfl ?_
    refine z_aald d_Hou_back_40 rfl (by decide) (by omega) (by omega) (by omega) ?_
    show SJ _ _ _ _ _ (.ref 132 :: _) _ _ _ _
    refine v_call1 d_Hou_back_41 c_Hou_321 rfl ⟨_, rfl, rfl⟩ (Nat.le_of_ble_eq_true rfl) (E_H_SCSX (fun Q2 kz => t_Sta_copyFrom hAX (fun lz hlz => kz _ _ _ _ _ _ _ _ _ _ _ _ rfl ?_)) rfl)
    refine j_aload_n d_Hou_back_44 rfl ?_
    refine gf_H_0_7 f_Hou_55 d_Hou_back_45 ?_
    refine v_call0 d_Hou_back_48 c_Hou_118 rfl ⟨_, rfl, rfl⟩ (Nat.le_of_ble_eq_true rfl) (E_H_D (fun Q2 kz => t_Dee_forget (kz _ _ _ _ _ _ _ _ _ _ _ _ _ _ _ _ _ rfl ?_)) rfl)
    refine j_aload_n d_Hou_back_51 rfl ?_
    refine z_iconst d_Hou_back_52 ?_
    refine v_call1 d_Hou_back_53 c_Hou_121 rfl ⟨_, rfl, rfl⟩ (Nat.le_of_ble_eq_true rfl) (t_Hou_grant  ?_)
    exact z_iret rfl d_Hou_back_56 rfl (hQ hk1 _ _ _ _ _ _ _ _ _ _ _ hS.copy (hL.texts (lx' := lz) (ts' := ts) hS.2.1.2.2.2.2.2.1.2 hlz (fun j t h => h)) (hAX.eq hlz))
  · refine j_aload_n d_Hou_back_24 rfl ?_
    refine z_bipush d_Hou_back_25 (by decide) ?_
    refine v_call1 d_Hou_back_27 c_Hou_111 rfl ⟨_, rfl, rfl⟩ (Nat.le_of_ble_eq_true rfl) (t_Hou_refuse (by omega) (by omega) ?_)
    exact z_iret rfl d_Hou_back_30 rfl (h2 (by omega))
theorem t_Hou_image1 {g : Bool} {d : Nat} {Q : List xM → Option Value → Prop} {hdn bl sp su lc fo rn rl rp pz pn fl td br dz ez rdn rlt rbr fz : Int} {rs rm rd ro tm kp by_ tk ps pv pw sk wd dk dl dg rsk wr rf : Int → Int} {qI aI bI cI gI pI yI : Nat → Int} {qF aF bF cF gF eF fF pF yF nF : Nat → Int → Int} {pr be wy : Int → Int → Int} {lx qx ax bx cx : Nat → Option Nat} {ts : List TD} {K : Int → Int} (hS : SI K lc fo rn rl rp rs rm rd tm) (hL : LB K lx ts) (hXV : LXV lx ts) (hQ : ∀ (bI : Nat → Int) (bF : Nat → Int → Int) (bx : Nat → Option Nat), SI K (bI 0) (bI 1) (bI 2) (bI 3) (bI 4) (bF 0) (bF 1) (bF 2) (bF 4) → LB K bx ts → LXV bx ts → Q (W_H hdn bl sp 0 lc fo rn rl rp pz pn fl td br dz ez rdn rlt rbr fz rs rm rd ro tm (up kp 1 1) by_ tk ps pv pw sk wd dk dl dg rsk wr rf qI aI bI cI gI pI yI qF aF bF cF gF eF fF pF yF nF pr be wy lx qx ax bx cx ts) (some (.int (ii 0))))  : CT g m_Hou_image (d + 3) [.ref 0, .int (ii 1)] (W_H hdn bl sp su lc fo rn rl rp pz pn fl td br dz ez rdn rlt rbr fz rs rm rd ro tm kp by_ tk ps pv pw sk wd dk dl dg rsk wr rf qI aI bI cI gI pI yI qF aF bF cF gF eF fF pF yF nF pr be wy lx qx ax bx cx ts) 0 0 Q := by
  refine CT.of (by decide) (Nat.le_of_ble_eq_true rfl) ?_
  show SJ _ _ _ _ [some (.ref 0), some (.int (ii 1))] [] _ _ _ _
  refine j_iload_n d_Hou_image_0 rfl ?_
  refine z_if_lt (t := 9) d_Hou_image_1 (by decide) (by first | omega | exact hw _ | exact hx _ _ | assumption) (fun h => absurd h (by decide)) (fun _ => ?_)
  refine j_iload_n d_Hou_image_4 rfl ?_
  refine z_iconst d_Hou_image_5 ?_
  refine z_icmp_lt (t := 15) d_Hou_image_6 (by decide) (by first | omega | exact hw _ | exact hx _ _ | assumption) (by first | omega | exact hw _ | exact hx _ _ | assumption) (fun _ => ?_) (fun h => absurd h (by decide))
  refine j_aload_n d_Hou_image_15 rfl ?_
  refine gf_H_0_2 f_Hou_19 d_Hou_image_16 ?_
  refine j_iload_n d_Hou_image_19 rfl ?_
  refine z_aald d_Hou_image_20 rfl (by decide) (by omega) (by omega) (by omega) ?_
  show SJ _ _ _ _ _ (.ref 140 :: _) _ _ _ _
  refine j_aload_n d_Hou_image_21 rfl ?_
  refine gf_H_0_0 f_Hou_12 d_Hou_image_22 ?_
  refine v_call1 d_Hou_image_25 c_Hou_321 rfl ⟨_, rfl, rfl⟩ (Nat.le_of_ble_eq_true rfl) (E_H_SCYS (fun Q2 kz => t_Sta_copyFrom hXV (fun lz hlz => kz _ _ _ _ _ _ _ _ _ _ _ _ rfl ?_)) rfl)
  refine j_aload_n d_Hou_image_28 rfl ?_
  refine gf_H_0_3 f_Hou_23 d_Hou_image_29 ?_
  refine j_iload_n d_Hou_image_32 rfl ?_
  refine z_iconst d_Hou_image_33 ?_
  refine as_H_18 d_Hou_image_34 (by omega) (by omega) (by first | exact Or.inl rfl | exact Or.inr rfl | assumption | omega) ?_
  refine j_aload_n d_Hou_image_35 rfl ?_
  refine z_iconst d_Hou_image_36 ?_
  refine v_call1 d_Hou_image_37 c_Hou_121 rfl ⟨_, rfl, rfl⟩ (Nat.le_of_ble_eq_true rfl) (t_Hou_grant  ?_)
  exact z_iret rfl d_Hou_image_40 rfl (hQ _ _ _ hS.copy (hL.texts (lx' := lz) (ts' := ts) hS.2.1.2.2.2.2.2.1.2 hlz (fun j t h => h)) (hXV.eq hlz))
theorem t_Hou_back1 {g : Bool} {d : Nat} {Q : List xM → Option Value → Prop} {hdn bl sp su lc fo rn rl rp pz pn fl td br dz ez rdn rlt rbr fz : Int} {rs rm rd ro tm kp by_ tk ps pv pw sk wd dk dl dg rsk wr rf : Int → Int} {qI aI bI cI gI pI yI : Nat → Int} {qF aF bF cF gF eF fF pF yF nF : Nat → Int → Int} {pr be wy : Int → Int → Int} {lx qx ax bx cx : Nat → Option Nat} {ts : List TD} {KI : Int → Int} (hk01 : kp 1 = 0 ∨ kp 1 = 1) (hA : kp 1 = 1 → SI KI (bI 0) (bI 1) (bI 2) (bI 3) (bI 4) (bF 0) (bF 1) (bF 2) (bF 4) ∧ LB KI bx ts) (hAX : LXV bx ts) (h2 : kp 1 = 0 → Q (W_H hdn bl sp (-2) lc fo rn rl rp pz pn fl td br dz ez rdn rlt rbr fz rs rm rd ro tm kp by_ tk ps pv pw sk wd dk dl dg rsk wr (up rf (rix (-2)) (rf (rix (-2)) + 1)) qI aI bI cI gI pI yI qF aF bF cF gF eF fF pF yF nF pr be wy lx qx ax bx cx ts) (some (.int (ii (-2))))) (hQ : kp 1 = 1 → ∀ (lc fo rn rl rp : Int) (rs rm rd ro tm : Int → Int) (lx : Nat → Option Nat), SI KI lc fo rn rl rp rs rm rd tm → LB KI lx ts → LXV lx ts → Q (W_H hdn bl sp 0 lc fo rn rl rp pz pn fl td br 0 ez rdn rlt rbr fz rs rm rd ro tm kp by_ tk ps pv pw sk wd dk dl dg rsk wr rf qI aI bI cI gI pI yI qF aF bF cF gF eF fF pF yF nF pr be wy lx qx ax bx cx ts) (some (.int (ii 0))))  : CT g m_Hou_back (d + 3) [.ref 0, .int (ii 1)] (W_H hdn bl sp su lc fo rn rl rp pz pn fl td br dz ez rdn rlt rbr fz rs rm rd ro tm kp by_ tk ps pv pw sk wd dk dl dg rsk wr rf qI aI bI cI gI pI yI qF aF bF cF gF eF fF pF yF nF pr be wy lx qx ax bx cx ts) 0 0 Q := by
  refine CT.of (by decide) (Nat.le_of_ble_eq_true rfl) ?_
  show SJ _ _ _ _ [some (.ref 0), some (.int (ii 1))] [] _ _ _ _
  refine j_iload_n d_Hou_back_0 rfl ?_
  refine z_if_lt (t := 9) d_Hou_back_1 (by decide) (by first | omega | exact hw _ | exact hx _ _ | assumption) (fun h => absurd h (by decide)) (fun _ => ?_)
  refine j_iload_n d_Hou_back_4 rfl ?_
  refine z_iconst d_Hou_back_5 ?_
  refine z_icmp_lt (t := 15) d_Hou_back_6 (by decide) (by first | omega | exact hw _ | exact hx _ _ | assumption) (by first | omega | exact hw _ | exact hx _ _ | assumption) (fun _ => ?_) (fun h => absurd h (by decide))
  refine j_aload_n d_Hou_back_15 rfl ?_
  refine gf_H_0_3 f_Hou_23 d_Hou_back_16 ?_
  refine j_iload_n d_Hou_back_19 rfl ?_
  refine al_H_18 d_Hou_back_20 (by omega) (by omega) ?_
  refine z_if_ne (t := 31) d_Hou_back_21 (by decide) (by first | omega | exact hw _ | exact hx _ _ | assumption) (fun h21 => ?_) (fun h21 => ?_)
  · have hk1 : kp 1 = 1 := by omega
    obtain ⟨hS, hL⟩ := hA hk1
    refine j_aload_n d_Hou_back_31 rfl ?_
    refine gf_H_0_0 f_Hou_12 d_Hou_back_32 ?_
    refine j_aload_n d_Hou_back_35 rfl ?_
    refine gf_H_0_2 f_Hou_19 d_Hou_back_36 ?_
    refine j_iload_n d_Hou_back_39 rfl ?_
    refine z_aald d_Hou_back_40 rfl (by decide) (by omega) (by omega) (by omega) ?_
    show SJ _ _ _ _ _ (.ref 140 :: _) _ _ _ _
    refine v_call1 d_Hou_back_41 c_Hou_321 rfl ⟨_, rfl, rfl⟩ (Nat.le_of_ble_eq_true rfl) (E_H_SCSY (fun Q2 kz => t_Sta_copyFrom hAX (fun lz hlz => kz _ _ _ _ _ _ _ _ _ _ _ _ rfl ?_)) rfl)
    refine j_aload_n d_Hou_back_44 rfl ?_
    refine gf_H_0_7 f_Hou_55 d_Hou_back_45 ?_
    refine v_call0 d_Hou_back_48 c_Hou_118 rfl ⟨_, rfl, rfl⟩ (Nat.le_of_ble_eq_true rfl) (E_H_D (fun Q2 kz => t_Dee_forget (kz _ _ _ _ _ _ _ _ _ _ _ _ _ _ _ _ _ rfl ?_)) rfl)
    refine j_aload_n d_Hou_back_51 rfl ?_
    refine z_iconst d_Hou_back_52 ?_
    refine v_call1 d_Hou_back_53 c_Hou_121 rfl ⟨_, rfl, rfl⟩ (Nat.le_of_ble_eq_true rfl) (t_Hou_grant  ?_)
    exact z_iret rfl d_Hou_back_56 rfl (hQ hk1 _ _ _ _ _ _ _ _ _ _ _ hS.copy (hL.texts (lx' := lz) (ts' := ts) hS.2.1.2.2.2.2.2.1.2 hlz (fun j t h => h)) (hAX.eq hlz))
  · refine j_aload_n d_Hou_back_24 rfl ?_
    refine z_bipush d_Hou_back_25 (by decide) ?_
    refine v_call1 d_Hou_back_27 c_Hou_111 rfl ⟨_, rfl, rfl⟩ (Nat.le_of_ble_eq_true rfl) (t_Hou_refuse (by omega) (by omega) ?_)
    exact z_iret rfl d_Hou_back_30 rfl (h2 (by omega))
theorem t_Hou_orders {g : Bool} {d : Nat} {Q : List xM → Option Value → Prop} {hdn bl sp su lc fo rn rl rp pz pn fl td br dz ez rdn rlt rbr fz : Int} {rs rm rd ro tm kp by_ tk ps pv pw sk wd dk dl dg rsk wr rf : Int → Int} {qI aI bI cI gI pI yI : Nat → Int} {qF aF bF cF gF eF fF pF yF nF : Nat → Int → Int} {pr be wy : Int → Int → Int} {lx qx ax bx cx : Nat → Option Nat} {ts : List TD} {K Z : Int → Int} (hS : SI K lc fo rn rl rp rs rm rd tm) (hL : LB K lx ts) (hU : UR K Z dz dk dl dg) (hXV : LXV lx ts) (hby : ∀ j, 0 ≤ j → j < 400 → 0 ≤ by_ j ∧ by_ j ≤ 255) (hpw : ∀ j, 0 ≤ j → j < 137 → pw j = ofL TB j) (z0_ : 0 ≤ pz) (z1_ : pz ≤ 400) {qz : TKS} (hCV : (tkz by_ pz qz).2.1 (tkz by_ pz qz).1 = 0 ∧ 0 ≤ (tkz by_ pz qz).1 ∧ ∀ k, 0 ≤ k → k < (tkz by_ pz qz).1 → 0 ≤ (tkz by_ pz qz).2.2.1 k) (her : ∀ t, pRd (tkz by_ pz qz).2.1 (tkz by_ pz qz).2.2.1 (tkz by_ pz qz).1 1 14 20 = .inr t → ∀ (pn : Int) (tk ps pv : Int → Int) (gI : Nat → Int) (gF : Nat → Int → Int), Q (W_H hdn bl (-1) (-6) lc fo rn rl rp 0 pn ((tkz by_ pz qz).2.2.2 t) td br dz ez rdn rlt rbr fz rs rm rd ro tm kp by_ tk ps pv pw sk wd dk dl dg rsk wr (up rf (rix (-6)) (rf (rix (-6)) + 1)) qI aI bI cI gI pI yI qF aF bF cF gF eF fF pF yF nF pr be wy lx qx ax bx cx ts) (some (.int (ii (-6))))) (hok : ∀ cs t l, pRd (tkz by_ pz qz).2.1 (tkz by_ pz qz).2.2.1 (tkz by_ pz qz).1 1 14 20 = .inl (cs, t, l) → cs.length ≤ 12 → ∀ T : OS, ruO cs 0 (K, Z, dz, 0, -1) = .inl T → ∀ (rn rl rp td br rbr fz rlt pn : Int) (rs rm rd ro tm sk wd dk dl dg rsk wr tk ps pv : Int → Int) (gI cI : Nat → Int) (gF cF fF : Nat → Int → Int) (cx : Nat → Option Nat), SI T.1 lc fo rn rl rp rs rm rd tm → UR T.1 T.2.1 T.2.2.1 dk dl dg → (∀ j, 22 ≤ j → T.1 j = K j) → LXV cx ts → Q (W_H hdn bl (-1) 0 lc fo rn rl rp 0 pn (-1) td br T.2.2.1 ez T.2.2.2.1 rlt rbr fz rs rm rd ro tm kp by_ tk ps pv pw sk wd dk dl dg rsk wr rf qI aI bI cI gI pI yI qF aF bF cF gF eF fF pF yF nF pr be wy lx qx ax bx cx ts) (some (.int (ii T.2.2.2.1)))) (hsto : ∀ cs t l, pRd (tkz by_ pz qz).2.1 (tkz by_ pz qz).2.2.1 (tkz by_ pz qz).1 1 14 20 = .inl (cs, t, l) → cs.length ≤ 12 → ∀ m, ruO cs 0 (K, Z, dz, 0, -1) = .inr m → ∀ (lc fo rn rl rp td br rbr fz rdn rlt pn : Int) (rs rm rd ro tm sk wd dk dl dg rsk wr tk ps pv : Int → Int) (gI cI : Nat → Int) (gF cF fF : Nat → Int → Int) (lx cx : Nat → Option Nat), SI K lc fo rn rl rp rs rm rd tm → UR K Z dz dk dl dg → LB K lx ts → LXV lx ts → LXV cx ts → Q (W_H hdn bl m (-3) lc fo rn rl rp 0 pn (-1) td br dz ez rdn rlt rbr fz rs rm rd ro tm kp by_ tk ps pv pw sk wd dk dl dg rsk wr (up rf (rix (-3)) (rf (rix (-3)) + 1)) qI aI bI cI gI pI yI qF aF bF cF gF eF fF pF yF nF pr be wy lx qx ax bx cx ts) (some (.int (ii (-3)))))  : CT g m_Hou_orders (d + 41) [.ref 0] (W_H hdn bl sp su lc fo rn rl rp pz pn fl td br dz ez rdn rlt rbr fz rs rm rd ro tm kp by_ tk ps pv pw sk wd dk dl dg rsk wr rf qI aI bI cI gI pI yI qF aF bF cF gF eF fF pF yF nF pr be wy lx qx ax bx cx ts) 0 0 Q := by
  refine CT.of (by decide) (Nat.le_of_ble_eq_true rfl) ?_
  show SJ _ _ _ _ [some (.ref 0)] [] _ _ _ _
  refine j_aload_n d_Hou_orders_0 rfl ?_
  refine z_iconst d_Hou_orders_1 ?_
  refine pf_H_0_15 f_Hou_99 d_Hou_orders_2 ?_
  refine j_aload_n d_Hou_orders_5 rfl ?_
  refine gf_H_0_5 f_Hou_39 d_Hou_orders_6 ?_
  refine z_iconst d_Hou_orders_9 ?_
  refine v_call1 d_Hou_orders_10 c_Hou_150 rfl ⟨_, rfl, rfl⟩ (Nat.le_of_ble_eq_true rfl) (E_H_GR (fun Q2 kz => t_Gra_readsTape1 hby hpw z0_ z1_ (qz := qz) (fun cs t l sz_ nx_ tn_ pp_ pn_ kn_ ff_ sc_ ts_ mm_ st_ vl_ tk_ ps_ pv_ hpr hTx hs4 hc12 => kz _ _ _ _ _ _ _ _ _ _ _ _ _ _ _ _ _ _ _ _ _ _ _ rfl ?_) (fun t hpr nx_ tn_ pp_ ne_ tc_ sz_ pn_ kn_ ff_ sc_ ts_ mm_ st_ vl_ tk_ ps_ pv_ => kz _ _ _ _ _ _ _ _ _ _ _ _ _ _ _ _ _ _ _ _ _ _ _ rfl ?_)) rfl)
  · refine z_if_ne (t := 23) d_Hou_orders_13 (by decide) (by first | omega | exact hw _ | exact hx _ _ | assumption) (fun _ => ?_) (fun h => absurd h (by decide))
    refine j_aload_n d_Hou_orders_23 rfl ?_
    refine j_aload_n d_Hou_orders_24 rfl ?_
    refine gf_H_0_9 f_Hou_67 d_Hou_orders_25 ?_
    refine j_aload_n d_Hou_orders_28 rfl ?_
    refine gf_H_0_5 f_Hou_39 d_Hou_orders_29 ?_
    refine gf_H_25_0 f_Hou_160 d_Hou_orders_32 ?_
    refine v_call1 d_Hou_orders_35 c_Hou_167 rfl ⟨_, rfl, rfl⟩ (Nat.le_of_ble_eq_true rfl) (t_Run_runWhole hS hL hU hXV (cs := cs) hTx (fun wd wv hw => co_rd (by show sz_ ≤ 1000; omega) hCV.2.1 hCV.1 hCV.2.2 (Or.inr ⟨rfl, rfl, rfl⟩) hw hpr) hc12 (TxR_at cs 0 0 _ hTx).1 (by show sz_ ≤ 436; omega) (TxR_st cs 0 0 _ hTx (pRd_A hpr)) rfl (fun T hT rn2 rl2 rp2 td2 br2 rbr2 fz2 rs2 rm2 rd2 ro2 tm2 sk2 wd2 dk2 dl2 dg2 rsk2 wr2 cI2 cF2 fF2 cx2 h1 h2 h3 h4 => ?_) (fun m hm2 hm3 lc2 fo2 rdn2 rlt2 rn2 rl2 rp2 td2 br2 rbr2 fz2 rs2 rm2 rd2 ro2 tm2 sk2 wd2 dk2 dl2 dg2 rsk2 wr2 cI2 cF2 fF2 lx2 cx2 h1 h2 h3 h4 h5 => ?_))
    · refine pf_H_0_15 f_Hou_99 d_Hou_orders_38 ?_
      refine j_aload_n d_Hou_orders_41 rfl ?_
      refine gf_H_0_15 f_Hou_99 d_Hou_orders_42 ?_
      refine z_iconst d_Hou_orders_45 ?_
      refine z_icmp_ne (t := 63) d_Hou_orders_46 (by decide) (by first | omega | exact hw _ | exact hx _ _ | assumption) (by first | omega | exact hw _ | exact hx _ _ | assumption) (fun h46 => ?_) (fun h46 => ?_)
      · refine j_aload_n d_Hou_orders_63 rfl ?_
        refine z_bipush d_Hou_orders_64 (by decide) ?_
        refine v_call1 d_Hou_orders_66 c_Hou_111 rfl ⟨_, rfl, rfl⟩ (Nat.le_of_ble_eq_true rfl) (t_Hou_refuse (by omega) (by omega) ?_)
        first
        | exact z_iret rfl d_Hou_orders_69 rfl (hok cs t l hpr hc12 T hT _ _ _ _ _ _ _ _ _ _ _ _ _ _ _ _ _ _ _ _ _ _ _ _ _ _ _ _ _ _ h1 h2 h3 h4)
        | exact z_iret rfl d_Hou_orders_69 rfl (hsto cs t l hpr hc12 m hm2 _ _ _ _ _ _ _ _ _ _ _ _ _ _ _ _ _ _ _ _ _ _ _ _ _ _ _ _ _ _ _ _ _ _ h1 h2 h3 h4 h5)
        | (exfalso; omega)
      · refine j_aload_n d_Hou_orders_49 rfl ?_
        refine j_aload_n d_Hou_orders_50 rfl ?_
        refine gf_H_0_9 f_Hou_67 d_Hou_orders_51 ?_
        refine gf_H_46_0 f_Hou_171 d_Hou_orders_54 ?_
        refine v_call1 d_Hou_orders_57 c_Hou_121 rfl ⟨_, rfl, rfl⟩ (Nat.le_of_ble_eq_true rfl) (t_Hou_grant  ?_)
        refine j_goto (t := 69) d_Hou_orders_60 (by decide) ?_
        first
        | exact z_iret rfl d_Hou_orders_69 rfl (hok cs t l hpr hc12 T hT _ _ _ _ _ _ _ _ _ _ _ _ _ _ _ _ _ _ _ _ _ _ _ _ _ _ _ _ _ _ h1 h2 h3 h4)
        | exact z_iret rfl d_Hou_orders_69 rfl (hsto cs t l hpr hc12 m hm2 _ _ _ _ _ _ _ _ _ _ _ _ _ _ _ _ _ _ _ _ _ _ _ _ _ _ _ _ _ _ _ _ _ _ h1 h2 h3 h4 h5)
        | (exfalso; omega)
    · refine pf_H_0_15 f_Hou_99 d_Hou_orders_38 ?_
      refine j_aload_n d_Hou_orders_41 rfl ?_
      refine gf_H_0_15 f_Hou_99 d_Hou_orders_42 ?_
      refine z_iconst d_Hou_orders_45 ?_
      refine z_icmp_ne (t := 63) d_Hou_orders_46 (by decide) (by first | omega | exact hw _ | exact hx _ _ | assumption) (by first | omega | exact hw _ | exact hx _ _ | assumption) (fun h46 => ?_) (fun h46 => ?_)
      · refine j_aload_n d_Hou_orders_63 rfl ?_
        refine z_bipush d_Hou_orders_64 (by decide) ?_
        refine v_call1 d_Hou_orders_66 c_Hou_111 rfl ⟨_, rfl, rfl⟩ (Nat.le_of_ble_eq_true rfl) (t_Hou_refuse (by omega) (by omega) ?_)
        first
        | exact z_iret rfl d_Hou_orders_69 rfl (hok cs t l hpr hc12 T hT _ _ _ _ _ _ _ _ _ _ _ _ _ _ _ _ _ _ _ _ _ _ _ _ _ _ _ _ _ _ h1 h2 h3 h4)
        | exact z_iret rfl d_Hou_orders_69 rfl (hsto cs t l hpr hc12 m hm2 _ _ _ _ _ _ _ _ _ _ _ _ _ _ _ _ _ _ _ _ _ _ _ _ _ _ _ _ _ _ _ _ _ _ h1 h2 h3 h4 h5)
        | (exfalso; omega)
      · refine j_aload_n d_Hou_orders_49 rfl ?_
        refine j_aload_n d_Hou_orders_50 rfl ?_
        refine gf_H_0_9 f_Hou_67 d_Hou_orders_51 ?_
        refine gf_H_46_0 f_Hou_171 d_Hou_orders_54 ?_
        refine v_call1 d_Hou_orders_57 c_Hou_121 rfl ⟨_, rfl, rfl⟩ (Nat.le_of_ble_eq_true rfl) (t_Hou_grant  ?_)
        refine j_goto (t := 69) d_Hou_orders_60 (by decide) ?_
        first
        | exact z_iret rfl d_Hou_orders_69 rfl (hok cs t l hpr hc12 T hT _ _ _ _ _ _ _ _ _ _ _ _ _ _ _ _ _ _ _ _ _ _ _ _ _ _ _ _ _ _ h1 h2 h3 h4)
        | exact z_iret rfl d_Hou_orders_69 rfl (hsto cs t l hpr hc12 m hm2 _ _ _ _ _ _ _ _ _ _ _ _ _ _ _ _ _ _ _ _ _ _ _ _ _ _ _ _ _ _ _ _ _ _ h1 h2 h3 h4 h5)
        | (exfalso; omega)
  · refine z_if_ne (t := 23) d_Hou_orders_13 (by decide) (by first | omega | exact hw _ | exact hx _ _ | assumption) (fun h => absurd h (by decide)) (fun _ => ?_)
    refine j_aload_n d_Hou_orders_16 rfl ?_
    refine z_bipush d_Hou_orders_17 (by decide) ?_
    refine v_call1 d_Hou_orders_19 c_Hou_111 rfl ⟨_, rfl, rfl⟩ (Nat.le_of_ble_eq_true rfl) (t_Hou_refuse (by omega) (by omega) ?_)
    exact z_iret rfl d_Hou_orders_22 rfl (her t hpr _ _ _ _ _ _)
