theorem t_Hou_put {g : Bool} {d : Nat} {Q : List xM → Option Value → Prop} {hdn bl sp su lc fo rn rl rp pz pn fl td br dz ez rdn rlt rbr fz : Int} {rs rm rd ro tm kp by_ tk ps pv pw sk wd dk dl dg rsk wr rf : Int → Int} {qI aI bI cI gI pI yI : Nat → Int} {qF aF bF cF gF eF fF pF yF nF : Nat → Int → Int} {pr be wy : Int → Int → Int} {lx qx ax bx cx : Nat → Option Nat} {ts : List TD} {K Z : Int → Int} (hS : SI K lc fo rn rl rp rs rm rd tm) (hL : LB K lx ts) (hU : UR K Z dz dk dl dg) {s p : Int} (r1 : R32 s) (r2 : R32 p) (hno : puR K s p < 0 → ∀ td br sk wd, Q (W_H hdn bl sp (puR K s p) lc fo rn rl rp pz pn fl td br dz ez rdn rlt rbr fz rs rm rd ro tm kp by_ tk ps pv pw sk wd dk dl dg rsk wr (up rf (rix (puR K s p)) (rf (rix (puR K s p)) + 1)) qI aI bI cI gI pI yI qF aF bF cF gF eF fF pF yF nF pr be wy lx qx ax bx cx ts) (some (.int (ii (puR K s p))))) (hyes : 0 ≤ puR K s p → ∀ (rn rl rp td br : Int) (rs rm rd ro tm sk wd dk dl dg : Int → Int), SI (putK K s p) lc fo rn rl rp rs rm rd tm → UR (putK K s p) (kpL K Z dz 0) (shU dz + 1) dk dl dg → (∀ j, 22 ≤ j → (putK K s p) j = K j) → Q (W_H hdn bl sp 0 lc fo rn rl rp pz pn fl td br (shU dz + 1) ez rdn rlt rbr fz rs rm rd ro tm kp by_ tk ps pv pw sk wd dk dl dg rsk wr rf qI aI bI cI gI pI yI qF aF bF cF gF eF fF pF yF nF pr be wy lx qx ax bx cx ts) (some (.int (ii (puR K s p)))))  : CT g m_Hou_put (d + 5) [.ref 0, .int (ii s), .int (ii p)] (W_H hdn bl sp su lc fo rn rl rp pz pn fl td br dz ez rdn rlt rbr fz rs rm rd ro tm kp by_ tk ps pv pw sk wd dk dl dg rsk wr rf qI aI bI cI gI pI yI qF aF bF cF gF eF fF pF yF nF pr be wy lx qx ax bx cx ts) 0 0 Q := by
  refine CT.of (by decide) (Nat.le_of_ble_eq_true rfl) ?_
  show SJ _ _ _ _ [some (.ref 0), some (.int (ii s)), some (.int (ii p))] [] _ _ _ _
  have hKR := hS.2.1
  have hKK := hL.kok hKR
  have hLX := hL.lxE hKR
  have hn20 := hKR.1
  have hu16 := hU.1
  have hrg := puR_Q hKK s p
  refine j_aload_n d_Hou_put_0 rfl ?_
  refine j_aload_n d_Hou_put_1 rfl ?_
  refine gf_H_0_7 f_Hou_55 d_Hou_put_2 ?_
  refine j_iload_n d_Hou_put_5 rfl ?_
  refine j_iload_n d_Hou_put_6 rfl ?_
  refine v_call2 d_Hou_put_7 c_Hou_196 rfl ⟨_, rfl, rfl⟩ (Nat.le_of_ble_eq_true rfl) (E_H_D (fun Q2 kz => t_Dee_putSign hS hLX hu16.1 hu16.2 (fun s p s0 s1 p0 p1 => hL.tlR hKR s p s0 s1 p0 p1) r1 r2 (fun hno1 tdz brz skz wdz => kz _ _ _ _ _ _ _ _ _ _ _ _ _ _ _ _ _ rfl ?_) (fun hy1 hy2 hy3 hy4 hy5 tdz brz skz wdz => kz _ _ _ _ _ _ _ _ _ _ _ _ _ _ _ _ _ rfl ?_)) rfl)
  · first
    | have hob := ob_put (dn := 0) (lt := 0) hS hU rfl hy1 hy2 hy3 hy4
    | skip
    refine v_call1 d_Hou_put_10 c_Hou_200 rfl ⟨_, rfl, rfl⟩ (Nat.le_of_ble_eq_true rfl) (t_Hou_answer (by omega) (by omega) (fun h10 => ?_) (fun h10 => ?_))
    · first
      | (exfalso; omega)
      | exact z_iret rfl d_Hou_put_13 rfl (hno hno1 _ _ _ _)
      | exact z_iret rfl d_Hou_put_13 rfl (hyes hy1 _ _ _ _ _ _ _ _ _ _ _ _ _ _ _ hob.2.1 hob.2.2.1 hob.2.2.2)
    · first
      | (exfalso; omega)
      | exact z_iret rfl d_Hou_put_13 rfl (hno hno1 _ _ _ _)
      | exact z_iret rfl d_Hou_put_13 rfl (hyes hy1 _ _ _ _ _ _ _ _ _ _ _ _ _ _ _ hob.2.1 hob.2.2.1 hob.2.2.2)
  · first
    | have hob := ob_put (dn := 0) (lt := 0) hS hU rfl hy1 hy2 hy3 hy4
    | skip
    refine v_call1 d_Hou_put_10 c_Hou_200 rfl ⟨_, rfl, rfl⟩ (Nat.le_of_ble_eq_true rfl) (t_Hou_answer (by omega) (by omega) (fun h10 => ?_) (fun h10 => ?_))
    · first
      | (exfalso; omega)
      | exact z_iret rfl d_Hou_put_13 rfl (hno hno1 _ _ _ _)
      | exact z_iret rfl d_Hou_put_13 rfl (hyes hy1 _ _ _ _ _ _ _ _ _ _ _ _ _ _ _ hob.2.1 hob.2.2.1 hob.2.2.2)
    · first
      | (exfalso; omega)
      | exact z_iret rfl d_Hou_put_13 rfl (hno hno1 _ _ _ _)
      | exact z_iret rfl d_Hou_put_13 rfl (hyes hy1 _ _ _ _ _ _ _ _ _ _ _ _ _ _ _ hob.2.1 hob.2.2.1 hob.2.2.2)
theorem t_Hou_cut {g : Bool} {d : Nat} {Q : List xM → Option Value → Prop} {hdn bl sp su lc fo rn rl rp pz pn fl td br dz ez rdn rlt rbr fz : Int} {rs rm rd ro tm kp by_ tk ps pv pw sk wd dk dl dg rsk wr rf : Int → Int} {qI aI bI cI gI pI yI : Nat → Int} {qF aF bF cF gF eF fF pF yF nF : Nat → Int → Int} {pr be wy : Int → Int → Int} {lx qx ax bx cx : Nat → Option Nat} {ts : List TD} {K Z : Int → Int} (hS : SI K lc fo rn rl rp rs rm rd tm) (hL : LB K lx ts) (hU : UR K Z dz dk dl dg) {p : Int} (r2 : R32 p) (hno : cuR K p < 0 → ∀ td br sk wd, Q (W_H hdn bl sp (cuR K p) lc fo rn rl rp pz pn fl td br dz ez rdn rlt rbr fz rs rm rd ro tm kp by_ tk ps pv pw sk wd dk dl dg rsk wr (up rf (rix (cuR K p)) (rf (rix (cuR K p)) + 1)) qI aI bI cI gI pI yI qF aF bF cF gF eF fF pF yF nF pr be wy lx qx ax bx cx ts) (some (.int (ii (cuR K p))))) (hyes : 0 ≤ cuR K p → ∀ (rn rl rp td br : Int) (rs rm rd ro tm sk wd dk dl dg : Int → Int), SI (cutK K p) lc fo rn rl rp rs rm rd tm → UR (cutK K p) (kpL K Z dz 1) (shU dz + 1) dk dl dg → (∀ j, 22 ≤ j → (cutK K p) j = K j) → Q (W_H hdn bl sp 0 lc fo rn rl rp pz pn fl td br (shU dz + 1) ez rdn rlt rbr fz rs rm rd ro tm kp by_ tk ps pv pw sk wd dk dl dg rsk wr rf qI aI bI cI gI pI yI qF aF bF cF gF eF fF pF yF nF pr be wy lx qx ax bx cx ts) (some (.int (ii (cuR K p)))))  : CT g m_Hou_cut (d + 5) [.ref 0, .int (ii p)] (W_H hdn bl sp su lc fo rn rl rp pz pn fl td br dz ez rdn rlt rbr fz rs rm rd ro tm kp by_ tk ps pv pw sk wd dk dl dg rsk wr rf qI aI bI cI gI pI yI qF aF bF cF gF eF fF pF yF nF pr be wy lx qx ax bx cx ts) 0 0 Q := by
  refine CT.of (by decide) (Nat.le_of_ble_eq_true rfl) ?_
  show SJ _ _ _ _ [some (.ref 0), some (.int (ii p))] [] _ _ _ _
  have hKR := hS.2.1
  have hKK := hL.kok hKR
  have hLX := hL.lxE hKR
  have hn20 := hKR.1
  have hu16 := hU.1
  have hrg := cuR_Q hKK p
  refine j_aload_n d_Hou_cut_0 rfl ?_
  refine j_aload_n d_Hou_cut_1 rfl ?_
  refine gf_H_0_7 f_Hou_55 d_Hou_cut_2 ?_
  refine j_iload_n d_Hou_cut_5 rfl ?_
  refine v_call1 d_Hou_cut_6 c_Hou_203 rfl ⟨_, rfl, rfl⟩ (Nat.le_of_ble_eq_true rfl) (E_H_D (fun Q2 kz => t_Dee_cutSign hS hLX hu16.1 hu16.2 (fun s p s0 s1 p0 p1 => hL.tlR hKR s p s0 s1 p0 p1) r2 (fun hno1 tdz brz skz wdz => kz _ _ _ _ _ _ _ _ _ _ _ _ _ _ _ _ _ rfl ?_) (fun hy1 hy2 tdz brz skz wdz => kz _ _ _ _ _ _ _ _ _ _ _ _ _ _ _ _ _ rfl ?_)) rfl)
  · first
    | have hob := ob_cut (dn := 0) (lt := 0) (p := 0) hS hU rfl hy1 hy2
    | skip
    refine v_call1 d_Hou_cut_9 c_Hou_200 rfl ⟨_, rfl, rfl⟩ (Nat.le_of_ble_eq_true rfl) (t_Hou_answer (by omega) (by omega) (fun h10 => ?_) (fun h10 => ?_))
    · first
      | (exfalso; omega)
      | exact z_iret rfl d_Hou_cut_12 rfl (hno hno1 _ _ _ _)
      | exact z_iret rfl d_Hou_cut_12 rfl (hyes hy1 _ _ _ _ _ _ _ _ _ _ _ _ _ _ _ hob.2.1 hob.2.2.1 hob.2.2.2)
    · first
      | (exfalso; omega)
      | exact z_iret rfl d_Hou_cut_12 rfl (hno hno1 _ _ _ _)
      | exact z_iret rfl d_Hou_cut_12 rfl (hyes hy1 _ _ _ _ _ _ _ _ _ _ _ _ _ _ _ hob.2.1 hob.2.2.1 hob.2.2.2)
  · first
    | have hob := ob_cut (dn := 0) (lt := 0) (p := 0) hS hU rfl hy1 hy2
    | skip
    refine v_call1 d_Hou_cut_9 c_Hou_200 rfl ⟨_, rfl, rfl⟩ (Nat.le_of_ble_eq_true rfl) (t_Hou_answer (by omega) (by omega) (fun h10 => ?_) (fun h10 => ?_))
    · first
      | (exfalso; omega)
      | exact z_iret rfl d_Hou_cut_12 rfl (hno hno1 _ _ _ _)
      | exact z_iret rfl d_Hou_cut_12 rfl (hyes hy1 _ _ _ _ _ _ _ _ _ _ _ _ _ _ _ hob.2.1 hob.2.2.1 hob.2.2.2)
    · first
      | (exfalso; omega)
      | exact z_iret rfl d_Hou_cut_12 rfl (hno hno1 _ _ _ _)
      | exact z_iret rfl d_Hou_cut_12 rfl (hyes hy1 _ _ _ _ _ _ _ _ _ _ _ _ _ _ _ hob.2.1 hob.2.2.1 hob.2.2.2)
theorem t_Hou_turn {g : Bool} {d : Nat} {Q : List xM → Option Value → Prop} {hdn bl sp su lc fo rn rl rp pz pn fl td br dz ez rdn rlt rbr fz : Int} {rs rm rd ro tm kp by_ tk ps pv pw sk wd dk dl dg rsk wr rf : Int → Int} {qI aI bI cI gI pI yI : Nat → Int} {qF aF bF cF gF eF fF pF yF nF : Nat → Int → Int} {pr be wy : Int → Int → Int} {lx qx ax bx cx : Nat → Option Nat} {ts : List TD} {K Z : Int → Int} (hS : SI K lc fo rn rl rp rs rm rd tm) (hL : LB K lx ts) (hU : UR K Z dz dk dl dg) {p s : Int} (r1 : R32 s) (r2 : R32 p) (hno : tuR K p s < 0 → ∀ td br sk wd, Q (W_H hdn bl sp (tuR K p s) lc fo rn rl rp pz pn fl td br dz ez rdn rlt rbr fz rs rm rd ro tm kp by_ tk ps pv pw sk wd dk dl dg rsk wr (up rf (rix (tuR K p s)) (rf (rix (tuR K p s)) + 1)) qI aI bI cI gI pI yI qF aF bF cF gF eF fF pF yF nF pr be wy lx qx ax bx cx ts) (some (.int (ii (tuR K p s))))) (hyes : 0 ≤ tuR K p s → ∀ (rn rl rp td br : Int) (rs rm rd ro tm sk wd dk dl dg : Int → Int), SI (up K (1 + p) s) lc fo rn rl rp rs rm rd tm → UR (up K (1 + p) s) (kpL K Z dz 2) (shU dz + 1) dk dl dg → (∀ j, 22 ≤ j → (up K (1 + p) s) j = K j) → Q (W_H hdn bl sp 0 lc fo rn rl rp pz pn fl td br (shU dz + 1) ez rdn rlt rbr fz rs rm rd ro tm kp by_ tk ps pv pw sk wd dk dl dg rsk wr rf qI aI bI cI gI pI yI qF aF bF cF gF eF fF pF yF nF pr be wy lx qx ax bx cx ts) (some (.int (ii (tuR K p s)))))  : CT g m_Hou_turn (d + 5) [.ref 0, .int (ii p), .int (ii s)] (W_H hdn bl sp su lc fo rn rl rp pz pn fl td br dz ez rdn rlt rbr fz rs rm rd ro tm kp by_ tk ps pv pw sk wd dk dl dg rsk wr rf qI aI bI cI gI pI yI qF aF bF cF gF eF fF pF yF nF pr be wy lx qx ax bx cx ts) 0 0 Q := by
  refine CT.of (by decide) (Nat.le_of_ble_eq_true rfl) ?_
  show SJ _ _ _ _ [some (.ref 0), some (.int (ii p)), some (.int (ii s))] [] _ _ _ _
  have hKR := hS.2.1
  have hKK := hL.kok hKR
  have hLX := hL.lxE hKR
  have hn20 := hKR.1
  have hu16 := hU.1
  have hrg := tuR_Q hKK p s
  refine j_aload_n d_Hou_turn_0 rfl ?_
  refine j_aload_n d_Hou_turn_1 rfl ?_
  refine gf_H_0_7 f_Hou_55 d_Hou_turn_2 ?_
  refine j_iload_n d_Hou_turn_5 rfl ?_
  refine j_iload_n d_Hou_turn_6 rfl ?_
  refine v_call2 d_Hou_turn_7 c_Hou_206 rfl ⟨_, rfl, rfl⟩ (Nat.le_of_ble_eq_true rfl) (E_H_D (fun Q2 kz => t_Dee_turnSign hS hLX hu16.1 hu16.2 r1 r2 (fun hno1 tdz brz skz wdz => kz _ _ _ _ _ _ _ _ _ _ _ _ _ _ _ _ _ rfl ?_) (fun hy1 hy2 hy3 tdz brz skz wdz => kz _ _ _ _ _ _ _ _ _ _ _ _ _ _ _ _ _ rfl ?_)) rfl)
  · first
    | have hob := ob_turn (dn := 0) (lt := 0) hS hU rfl hy1 hy2 hy3
    | skip
    refine v_call1 d_Hou_turn_10 c_Hou_200 rfl ⟨_, rfl, rfl⟩ (Nat.le_of_ble_eq_true rfl) (t_Hou_answer (by omega) (by omega) (fun h10 => ?_) (fun h10 => ?_))
    · first
      | (exfalso; omega)
      | exact z_iret rfl d_Hou_turn_13 rfl (hno hno1 _ _ _ _)
      | exact z_iret rfl d_Hou_turn_13 rfl (hyes hy1 _ _ _ _ _ _ _ _ _ _ _ _ _ _ _ hob.2.1 hob.2.2.1 hob.2.2.2)
    · first
      | (exfalso; omega)
      | exact z_iret rfl d_Hou_turn_13 rfl (hno hno1 _ _ _ _)
      | exact z_iret rfl d_Hou_turn_13 rfl (hyes hy1 _ _ _ _ _ _ _ _ _ _ _ _ _ _ _ hob.2.1 hob.2.2.1 hob.2.2.2)
  · first
    | have hob := ob_turn (dn := 0) (lt := 0) hS hU rfl hy1 hy2 hy3
    | skip
    refine v_call1 d_Hou_turn_10 c_Hou_200 rfl ⟨_, rfl, rfl⟩ (Nat.le_of_ble_eq_true rfl) (t_Hou_answer (by omega) (by omega) (fun h10 => ?_) (fun h10 => ?_))
    · first
      | (exfalso; omega)
      | exact z_iret rfl d_Hou_turn_13 rfl (hno hno1 _ _ _ _)
      | exact z_iret rfl d_Hou_turn_13 rfl (hyes hy1 _ _ _ _ _ _ _ _ _ _ _ _ _ _ _ hob.2.1 hob.2.2.1 hob.2.2.2)
    · first
      | (exfalso; omega)
      | exact z_iret rfl d_Hou_turn_13 rfl (hno hno1 _ _ _ _)
      | exact z_iret rfl d_Hou_turn_13 rfl (hyes hy1 _ _ _ _ _ _ _ _ _ _ _ _ _ _ _ hob.2.1 hob.2.2.1 hob.2.2.2)
theorem t_Hou_pass {g : Bool} {d : Nat} {Q : List xM → Option Value → Prop} {hdn bl sp su lc fo rn rl rp pz pn fl td br dz ez rdn rlt rbr fz : Int} {rs rm rd ro tm kp by_ tk ps pv pw sk wd dk dl dg rsk wr rf : Int → Int} {qI aI bI cI gI pI yI : Nat → Int} {qF aF bF cF gF eF fF pF yF nF : Nat → Int → Int} {pr be wy : Int → Int → Int} {lx qx ax bx cx : Nat → Option Nat} {ts : List TD} {K Z : Int → Int} (hS : SI K lc fo rn rl rp rs rm rd tm) (hL : LB K lx ts) (hU : UR K Z dz dk dl dg) (hno : K 21 = 999 → Q (W_H hdn bl sp (-3) lc fo rn rl rp pz pn fl td br dz ez rdn rlt rbr fz rs rm rd ro tm kp by_ tk ps pv pw sk wd dk dl dg rsk wr (up rf (rix (-3)) (rf (rix (-3)) + 1)) qI aI bI cI gI pI yI qF aF bF cF gF eF fF pF yF nF pr be wy lx qx ax bx cx ts) (some (.int (ii (-3))))) (hyes : K 21 < 999 → ∀ (rn rl rp td br : Int) (rs rm rd ro tm sk wd dk dl dg : Int → Int), SI (up K 21 (K 21 + 1)) lc fo rn rl rp rs rm rd tm → UR (up K 21 (K 21 + 1)) (kpL K Z dz 3) (shU dz + 1) dk dl dg → (∀ j, 22 ≤ j → (up K 21 (K 21 + 1)) j = K j) → Q (W_H hdn bl sp 0 lc fo rn rl rp pz pn fl td br (shU dz + 1) ez rdn rlt rbr fz rs rm rd ro tm kp by_ tk ps pv pw sk wd dk dl dg rsk wr rf qI aI bI cI gI pI yI qF aF bF cF gF eF fF pF yF nF pr be wy lx qx ax bx cx ts) (some (.int (ii (K 21 + 1)))))  : CT g m_Hou_pass (d + 3) [.ref 0] (W_H hdn bl sp su lc fo rn rl rp pz pn fl td br dz ez rdn rlt rbr fz rs rm rd ro tm kp by_ tk ps pv pw sk wd dk dl dg rsk wr rf qI aI bI cI gI pI yI qF aF bF cF gF eF fF pF yF nF pr be wy lx qx ax bx cx ts) 0 0 Q := by
  refine CT.of (by decide) (Nat.le_of_ble_eq_true rfl) ?_
  show SJ _ _ _ _ [some (.ref 0)] [] _ _ _ _
  have hKR := hS.2.1
  have hKK := hL.kok hKR
  have hLX := hL.lxE hKR
  have hn20 := hKR.1
  have hu16 := hU.1
  have hrg := hKR.2.2.1
  refine j_aload_n d_Hou_pass_0 rfl ?_
  refine j_aload_n d_Hou_pass_1 rfl ?_
  refine gf_H_0_7 f_Hou_55 d_Hou_pass_2 ?_
  refine v_call0 d_Hou_pass_5 c_Hou_209 rfl ⟨_, rfl, rfl⟩ (Nat.le_of_ble_eq_true rfl) (E_H_D (fun Q2 kz => t_Dee_passPage hS hu16.1 hu16.2 (fun hno1 => kz _ _ _ _ _ _ _ _ _ _ _ _ _ _ _ _ _ rfl ?_) (fun hy1 => kz _ _ _ _ _ _ _ _ _ _ _ _ _ _ _ _ _ rfl ?_)) rfl)
  · first
    | have hob := ob_pass (dn := 0) (lt := 0) (s := 0) (p := 0) hS hU rfl hy1
    | skip
    refine v_call1 d_Hou_pass_8 c_Hou_200 rfl ⟨_, rfl, rfl⟩ (Nat.le_of_ble_eq_true rfl) (t_Hou_answer (by omega) (by omega) (fun h10 => ?_) (fun h10 => ?_))
    · first
      | (exfalso; omega)
      | exact z_iret rfl d_Hou_pass_11 rfl (hno hno1)
      | exact z_iret rfl d_Hou_pass_11 rfl (hyes hy1 _ _ _ _ _ _ _ _ _ _ _ _ _ _ _ hob.2.1 hob.2.2.1 hob.2.2.2)
    · first
      | (exfalso; omega)
      | exact z_iret rfl d_Hou_pass_11 rfl (hno hno1)
      | exact z_iret rfl d_Hou_pass_11 rfl (hyes hy1 _ _ _ _ _ _ _ _ _ _ _ _ _ _ _ hob.2.1 hob.2.2.1 hob.2.2.2)
  · first
    | have hob := ob_pass (dn := 0) (lt := 0) (s := 0) (p := 0) hS hU rfl hy1
    | skip
    refine v_call1 d_Hou_pass_8 c_Hou_200 rfl ⟨_, rfl, rfl⟩ (Nat.le_of_ble_eq_true rfl) (t_Hou_answer (by omega) (by omega) (fun h10 => ?_) (fun h10 => ?_))
    · first
      | (exfalso; omega)
      | exact z_iret rfl d_Hou_pass_11 rfl (hno hno1)
      | exact z_iret rfl d_Hou_pass_11 rfl (hyes hy1 _ _ _ _ _ _ _ _ _ _ _ _ _ _ _ hob.2.1 hob.2.2.1 hob.2.2.2)
    · first
      | (exfalso; omega)
      | exact z_iret rfl d_Hou_pass_11 rfl (hno hno1)
      | exact z_iret rfl d_Hou_pass_11 rfl (hyes hy1 _ _ _ _ _ _ _ _ _ _ _ _ _ _ _ hob.2.1 hob.2.2.1 hob.2.2.2)
theorem t_Hou_undo {g : Bool} {d : Nat} {Q : List xM → Option Value → Prop} {hdn bl sp su lc fo rn rl rp pz pn fl td br dz ez rdn rlt rbr fz : Int} {rs rm rd ro tm kp by_ tk ps pv pw sk wd dk dl dg rsk wr rf : Int → Int} {qI aI bI cI gI pI yI : Nat → Int} {qF aF bF cF gF eF fF pF yF nF : Nat → Int → Int} {pr be wy : Int → Int → Int} {lx qx ax bx cx : Nat → Option Nat} {ts : List TD} {K Z : Int → Int} (hS : SI K lc fo rn rl rp rs rm rd tm) (hL : LB K lx ts) (hU : UR K Z dz dk dl dg) (hno : dz = 0 → Q (W_H hdn bl sp (-3) lc fo rn rl rp pz pn fl td br dz ez rdn rlt rbr fz rs rm rd ro tm kp by_ tk ps pv pw sk wd dk dl dg rsk wr (up rf (rix (-3)) (rf (rix (-3)) + 1)) qI aI bI cI gI pI yI qF aF bF cF gF eF fF pF yF nF pr be wy lx qx ax bx cx ts) (some (.int (ii (-3))))) (hyes : 1 ≤ dz → ∀ (rn rl rp td br : Int) (rs rm rd ro tm sk wd dk dl dg : Int → Int), SI (cpy Z K (23 * (dz - 1)) 0 22) lc fo rn rl rp rs rm rd tm → UR (cpy Z K (23 * (dz - 1)) 0 22) Z (dz - 1) dk dl dg → Q (W_H hdn bl sp 0 lc fo rn rl rp pz pn fl td br (dz - 1) ez rdn rlt rbr fz rs rm rd ro tm kp by_ tk ps pv pw sk wd dk dl dg rsk wr rf qI aI bI cI gI pI yI qF aF bF cF gF eF fF pF yF nF pr be wy lx qx ax bx cx ts) (some (.int (ii (Z (23 * (dz - 1) + 22))))))  : CT g m_Hou_undo (d + 3) [.ref 0] (W_H hdn bl sp su lc fo rn rl rp pz pn fl td br dz ez rdn rlt rbr fz rs rm rd ro tm kp by_ tk ps pv pw sk wd dk dl dg rsk wr rf qI aI bI cI gI pI yI qF aF bF cF gF eF fF pF yF nF pr be wy lx qx ax bx cx ts) 0 0 Q := by
  refine CT.of (by decide) (Nat.le_of_ble_eq_true rfl) ?_
  show SJ _ _ _ _ [some (.ref 0)] [] _ _ _ _
  have hKR := hS.2.1
  have hKK := hL.kok hKR
  have hLX := hL.lxE hKR
  have hn20 := hKR.1
  have hu16 := hU.1
  obtain ⟨hR, -, htm0, htm1, htm2, hlc, hfo⟩ := id hS
  obtain ⟨hrn, ⟨hn0, hn1⟩, hrs, hrp, hpu⟩ := id hR
  refine j_aload_n d_Hou_undo_0 rfl ?_
  refine j_aload_n d_Hou_undo_1 rfl ?_
  refine gf_H_0_7 f_Hou_55 d_Hou_undo_2 ?_
  refine v_call0 d_Hou_undo_5 c_Hou_213 rfl ⟨_, rfl, rfl⟩ (Nat.le_of_ble_eq_true rfl) (E_H_D (fun Q2 kz => t_Dee_undoLatest hn0 hn1 hU.2.1 (fun j j0 j1 => hU.dk3 j j0 j1) hu16.1 hu16.2 (fun hz => kz _ _ _ _ _ _ _ _ _ _ _ _ _ _ _ _ _ rfl ?_) (fun u1 u2 u3 => kz _ _ _ _ _ _ _ _ _ _ _ _ _ _ _ _ _ rfl ?_) (fun u1 u2 u3 => kz _ _ _ _ _ _ _ _ _ _ _ _ _ _ _ _ _ rfl ?_) (fun u1 u2 u3 => kz _ _ _ _ _ _ _ _ _ _ _ _ _ _ _ _ _ rfl ?_) (fun u1 u2 => kz _ _ _ _ _ _ _ _ _ _ _ _ _ _ _ _ _ rfl ?_) (fun e => by have hz := hU.ok e; rw [← hrn] at hz; exact hz)) rfl)
  · first
    | (obtain ⟨ul1, ul2, ul3⟩ := hU.last u1
       rw [u2] at ul1 ul3)
    | skip
    refine v_call1 d_Hou_undo_8 c_Hou_200 rfl ⟨_, rfl, rfl⟩ (Nat.le_of_ble_eq_true rfl) (t_Hou_answer (by omega) (by omega) (fun h10 => ?_) (fun h10 => ?_))
    · first
      | (exfalso; omega)
      | exact z_iret rfl d_Hou_undo_11 rfl (hno hz)
      | exact z_iret rfl d_Hou_undo_11 (by omega) (hyes u1 _ _ _ _ _ _ _ _ _ _ _ _ _ _ _ (hS.un0 ul2 (fun j hj => undo_hi hj) ul3) (hU.undo u1))
      | exact z_iret rfl d_Hou_undo_11 (by omega) (hyes u1 _ _ _ _ _ _ _ _ _ _ _ _ _ _ _ (hS.un1 ul2 (fun j hj => undo_hi hj) ul3) (hU.undo u1))
      | exact z_iret rfl d_Hou_undo_11 (by omega) (hyes u1 _ _ _ _ _ _ _ _ _ _ _ _ _ _ _ (hS.un2 ul2 (fun j hj => undo_hi hj) ul3) (hU.undo u1))
      | exact z_iret rfl d_Hou_undo_11 (by omega) (hyes u1 _ _ _ _ _ _ _ _ _ _ _ _ _ _ _ (hS.un3 ul2 (fun j hj => undo_hi hj) ul3) (hU.undo u1))
    · first
      | (exfalso; omega)
      | exact z_iret rfl d_Hou_undo_11 rfl (hno hz)
      | exact z_iret rfl d_Hou_undo_11 (by omega) (hyes u1 _ _ _ _ _ _ _ _ _ _ _ _ _ _ _ (hS.un0 ul2 (fun j hj => undo_hi hj) ul3) (hU.undo u1))
      | exact z_iret rfl d_Hou_undo_11 (by omega) (hyes u1 _ _ _ _ _ _ _ _ _ _ _ _ _ _ _ (hS.un1 ul2 (fun j hj => undo_hi hj) ul3) (hU.undo u1))
      | exact z_iret rfl d_Hou_undo_11 (by omega) (hyes u1 _ _ _ _ _ _ _ _ _ _ _ _ _ _ _ (hS.un2 ul2 (fun j hj => undo_hi hj) ul3) (hU.undo u1))
      | exact z_iret rfl d_Hou_undo_11 (by omega) (hyes u1 _ _ _ _ _ _ _ _ _ _ _ _ _ _ _ (hS.un3 ul2 (fun j hj => undo_hi hj) ul3) (hU.undo u1))
  · first
    | (obtain ⟨ul1, ul2, ul3⟩ := hU.last u1
       rw [u2] at ul1 ul3)
    | skip
    refine v_call1 d_Hou_undo_8 c_Hou_200 rfl ⟨_, rfl, rfl⟩ (Nat.le_of_ble_eq_true rfl) (t_Hou_answer (by omega) (by omega) (fun h10 => ?_) (fun h10 => ?_))
    · first
      | (exfalso; omega)
      | exact z_iret rfl d_Hou_undo_11 rfl (hno hz)
      | exact z_iret rfl d_Hou_undo_11 (by omega) (hyes u1 _ _ _ _ _ _ _ _ _ _ _ _ _ _ _ (hS.un0 ul2 (fun j hj => undo_hi hj) ul3) (hU.undo u1))
      | exact z_iret rfl d_Hou_undo_11 (by omega) (hyes u1 _ _ _ _ _ _ _ _ _ _ _ _ _ _ _ (hS.un1 ul2 (fun j hj => undo_hi hj) ul3) (hU.undo u1))
      | exact z_iret rfl d_Hou_undo_11 (by omega) (hyes u1 _ _ _ _ _ _ _ _ _ _ _ _ _ _ _ (hS.un2 ul2 (fun j hj => undo_hi hj) ul3) (hU.undo u1))
      | exact z_iret rfl d_Hou_undo_11 (by omega) (hyes u1 _ _ _ _ _ _ _ _ _ _ _ _ _ _ _ (hS.un3 ul2 (fun j hj => undo_hi hj) ul3) (hU.undo u1))
    · first
      | (exfalso; omega)
      | exact z_iret rfl d_Hou_undo_11 rfl (hno hz)
      | exact z_iret rfl d_Hou_undo_11 (by omega) (hyes u1 _ _ _ _ _ _ _ _ _ _ _ _ _ _ _ (hS.un0 ul2 (fun j hj => undo_hi hj) ul3) (hU.undo u1))
      | exact z_iret rfl d_Hou_undo_11 (by omega) (hyes u1 _ _ _ _ _ _ _ _ _ _ _ _ _ _ _ (hS.un1 ul2 (fun j hj => undo_hi hj) ul3) (hU.undo u1))
      | exact z_iret rfl d_Hou_undo_11 (by omega) (hyes u1 _ _ _ _ _ _ _ _ _ _ _ _ _ _ _ (hS.un2 ul2 (fun j hj => undo_hi hj) ul3) (hU.undo u1))
      | exact z_iret rfl d_Hou_undo_11 (by omega) (hyes u1 _ _ _ _ _ _ _ _ _ _ _ _ _ _ _ (hS.un3 ul2 (fun j hj => undo_hi hj) ul3) (hU.undo u1))
  · first
    | (obtain ⟨ul1, ul2, ul3⟩ := hU.last u1
       rw [u2] at ul1 ul3)
    | skip
    refine v_call1 d_Hou_undo_8 c_Hou_200 rfl ⟨_, rfl, rfl⟩ (Nat.le_of_ble_eq_true rfl) (t_Hou_answer (by omega) (by omega) (fun h10 => ?_) (fun h10 => ?_))
    · first
      | (exfalso; omega)
      | exact z_iret rfl d_Hou_undo_11 rfl (hno hz)
      | exact z_iret rfl d_Hou_undo_11 (by omega) (hyes u1 _ _ _ _ _ _ _ _ _ _ _ _ _ _ _ (hS.un0 ul2 (fun j hj => undo_hi hj) ul3) (hU.undo u1))
      | exact z_iret rfl d_Hou_undo_11 (by omega) (hyes u1 _ _ _ _ _ _ _ _ _ _ _ _ _ _ _ (hS.un1 ul2 (fun j hj => undo_hi hj) ul3) (hU.undo u1))
      | exact z_iret rfl d_Hou_undo_11 (by omega) (hyes u1 _ _ _ _ _ _ _ _ _ _ _ _ _ _ _ (hS.un2 ul2 (fun j hj => undo_hi hj) ul3) (hU.undo u1))
      | exact z_iret rfl d_Hou_undo_11 (by omega) (hyes u1 _ _ _ _ _ _ _ _ _ _ _ _ _ _ _ (hS.un3 ul2 (fun j hj => undo_hi hj) ul3) (hU.undo u1))
    · first
      | (exfalso; omega)
      | exact z_iret rfl d_Hou_undo_11 rfl (hno hz)
      | exact z_iret rfl d_Hou_undo_11 (by omega) (hyes u1 _ _ _ _ _ _ _ _ _ _ _ _ _ _ _ (hS.un0 ul2 (fun j hj => undo_hi hj) ul3) (hU.undo u1))
      | exact z_iret rfl d_Hou_undo_11 (by omega) (hyes u1 _ _ _ _ _ _ _ _ _ _ _ _ _ _ _ (hS.un1 ul2 (fun j hj => undo_hi hj) ul3) (hU.undo u1))
      | exact z_iret rfl d_Hou_undo_11 (by omega) (hyes u1 _ _ _ _ _ _ _ _ _ _ _ _ _ _ _ (hS.un2 ul2 (fun j hj => undo_hi hj) ul3) (hU.undo u1))
      | exact z_iret rfl d_Hou_undo_11 (by omega) (hyes u1 _ _ _ _ _ _ _ _ _ _ _ _ _ _ _ (hS.un3 ul2 (fun j hj => undo_hi hj) ul3) (hU.undo u1))
  · first
    | (obtain ⟨ul1, ul2, ul3⟩ := hU.last u1
       rw [u2] at ul1 ul3)
    | skip
    refine v_call1 d_Hou_undo_8 c_Hou_200 rfl ⟨_, rfl, rfl⟩ (Nat.le_of_ble_eq_true rfl) (t_Hou_answer (by omega) (by omega) (fun h10 => ?_) (fun h10 => ?_))
    · first
      | (exfalso; omega)
      | exact z_iret rfl d_Hou_undo_11 rfl (hno hz)
      | exact z_iret rfl d_Hou_undo_11 (by omega) (hyes u1 _ _ _ _ _ _ _ _ _ _ _ _ _ _ _ (hS.un0 ul2 (fun j hj => undo_hi hj) ul3) (hU.undo u1))
      | exact z_iret rfl d_Hou_undo_11 (by omega) (hyes u1 _ _ _ _ _ _ _ _ _ _ _ _ _ _ _ (hS.un1 ul2 (fun j hj => undo_hi hj) ul3) (hU.undo u1))
      | exact z_iret rfl d_Hou_undo_11 (by omega) (hyes u1 _ _ _ _ _ _ _ _ _ _ _ _ _ _ _ (hS.un2 ul2 (fun j hj => undo_hi hj) ul3) (hU.undo u1))
      | exact z_iret rfl d_Hou_undo_11 (by omega) (hyes u1 _ _ _ _ _ _ _ _ _ _ _ _ _ _ _ (hS.un3 ul2 (fun j hj => undo_hi hj) ul3) (hU.undo u1))
    · first
      | (exfalso; omega)
      | exact z_iret rfl d_Hou_undo_11 rfl (hno hz)
      | exact z_iret rfl d_Hou_undo_11 (by omega) (hyes u1 _ _ _ _ _ _ _ _ _ _ _ _ _ _ _ (hS.un0 ul2 (fun j hj => undo_hi hj) ul3) (hU.undo u1))
      | exact z_iret rfl d_Hou_undo_11 (by omega) (hyes u1 _ _ _ _ _ _ _ _ _ _ _ _ _ _ _ (hS.un1 ul2 (fun j hj => undo_hi hj) ul3) (hU.undo u1))
      | exact z_iret rfl d_Hou_undo_11 (by omega) (hyes u1 _ _ _ _ _ _ _ _ _ _ _ _ _ _ _ (hS.un2 ul2 (fun j hj => undo_hi hj) ul3) (hU.undo u1))
      | exact z_iret rfl d_Hou_undo_11 (by omega) (hyes u1 _ _ _ _ _ _ _ _ _ _ _ _ _ _ _ (hS.un3 ul2 (fun j hj => undo_hi hj) ul3) (hU.undo u1))
  · first
    | (obtain ⟨ul1, ul2, ul3⟩ := hU.last u1
       rw [u2] at ul1 ul3)
    | skip
    refine v_call1 d_Hou_undo_8 c_Hou_200 rfl ⟨_, rfl, rfl⟩ (Nat.le_of_ble_eq_true rfl) (t_Hou_answer (by omega) (by omega) (fun h10 => ?_) (fun h10 => ?_))
    · first
      | (exfalso; omega)
      | exact z_iret rfl d_Hou_undo_11 rfl (hno hz)
      | exact z_iret rfl d_Hou_undo_11 (by omega) (hyes u1 _ _ _ _ _ _ _ _ _ _ _ _ _ _ _ (hS.un0 ul2 (fun j hj => undo_hi hj) ul3) (hU.undo u1))
      | exact z_iret rfl d_Hou_undo_11 (by omega) (hyes u1 _ _ _ _ _ _ _ _ _ _ _ _ _ _ _ (hS.un1 ul2 (fun j hj => undo_hi hj) ul3) (hU.undo u1))
      | exact z_iret rfl d_Hou_undo_11 (by omega) (hyes u1 _ _ _ _ _ _ _ _ _ _ _ _ _ _ _ (hS.un2 ul2 (fun j hj => undo_hi hj) ul3) (hU.undo u1))
      | exact z_iret rfl d_Hou_undo_11 (by omega) (hyes u1 _ _ _ _ _ _ _ _ _ _ _ _ _ _ _ (hS.un3 ul2 (fun j hj => undo_hi hj) ul3) (hU.undo u1))
    · first
      | (exfalso; omega)
      | exact z_iret rfl d_Hou_undo_11 rfl (hno hz)
      | exact z_iret rfl d_Hou_undo_11 (by omega) (hyes u1 _ _ _ _ _ _ _ _ _ _ _ _ _ _ _ (hS.un0 ul2 (fun j hj => undo_hi hj) ul3) (hU.undo u1))
      | exact z_iret rfl d_Hou_undo_11 (by omega) (hyes u1 _ _ _ _ _ _ _ _ _ _ _ _ _ _ _ (hS.un1 ul2 (fun j hj => undo_hi hj) ul3) (hU.undo u1))
      | exact z_iret rfl d_Hou_undo_11 (by omega) (hyes u1 _ _ _ _ _ _ _ _ _ _ _ _ _ _ _ (hS.un2 ul2 (fun j hj => undo_hi hj) ul3) (hU.undo u1))
      | exact z_iret rfl d_Hou_undo_11 (by omega) (hyes u1 _ _ _ _ _ _ _ _ _ _ _ _ _ _ _ (hS.un3 ul2 (fun j hj => undo_hi hj) ul3) (hU.undo u1))
def atR (K : Int → Int) (p what : Int) : Int := if what = 0 then K (1 + p) else if what = 1 then mt K p else if what = 2 then dp K p else if what = 3 then (if K (1 + p) < 6 ∧ mt K p = -1 then 1 else 0) else -1
theorem t_Hou_at {g : Bool} {d : Nat} {Q : List xM → Option Value → Prop} {hdn bl sp su lc fo rn rl rp pz pn fl td br dz ez rdn rlt rbr fz : Int} {rs rm rd ro tm kp by_ tk ps pv pw sk wd dk dl dg rsk wr rf : Int → Int} {qI aI bI cI gI pI yI : Nat → Int} {qF aF bF cF gF eF fF pF yF nF : Nat → Int → Int} {pr be wy : Int → Int → Int} {lx qx ax bx cx : Nat → Option Nat} {ts : List TD} {K : Int → Int} (hS : SI K lc fo rn rl rp rs rm rd tm) (hL : LB K lx ts) {p what : Int} (r1 : R32 p) (r2 : R32 what) (hf : ¬ (0 ≤ p ∧ p < K 0) → Q (W_H hdn bl sp su lc fo rn rl rp pz pn fl td br dz ez rdn rlt rbr fz rs rm rd ro tm kp by_ tk ps pv pw sk wd dk dl dg rsk wr rf qI aI bI cI gI pI yI qF aF bF cF gF eF fF pF yF nF pr be wy lx qx ax bx cx ts) (some (.int (ii (-1))))) (hQ : 0 ≤ p ∧ p < K 0 → ∀ rl rp rm rd ro, RI K rn rl rp rs rm rd → Q (W_H hdn bl sp su lc fo rn rl rp pz pn fl td br dz ez rdn rlt rbr fz rs rm rd ro tm kp by_ tk ps pv pw sk wd dk dl dg rsk wr rf qI aI bI cI gI pI yI qF aF bF cF gF eF fF pF yF nF pr be wy lx qx ax bx cx ts) (some (.int (ii (atR K p what)))))  : CT g m_Hou_at (d + 4) [.ref 0, .int (ii p), .int (ii what)] (W_H hdn bl sp su lc fo rn rl rp pz pn fl td br dz ez rdn rlt rbr fz rs rm rd ro tm kp by_ tk ps pv pw sk wd dk dl dg rsk wr rf qI aI bI cI gI pI yI qF aF bF cF gF eF fF pF yF nF pr be wy lx qx ax bx cx ts) 0 0 Q := by
  refine CT.of (by decide) (Nat.le_of_ble_eq_true rfl) ?_
  show SJ _ _ _ _ [some (.ref 0), some (.int (ii p)), some (.int (ii what))] [] _ _ _ _
  obtain ⟨hR, -, htm0, htm1, htm2, hlc, hfo⟩ := id hS
  obtain ⟨hrn, ⟨hn0, hn1⟩, hrs, hrp, hpu⟩ := id hR
  refine j_aload_n d_Hou_at_0 rfl ?_
  refine gf_H_0_0 f_Hou_12 d_Hou_at_1 ?_
  refine gf_H_1_0 f_Hou_134 d_Hou_at_4 ?_
  refine j_iload_n d_Hou_at_7 rfl ?_
  refine v_call1 d_Hou_at_8 c_Hou_216 rfl ⟨_, rfl, rfl⟩ (Nat.le_of_ble_eq_true rfl) (E_H_Row (fun Q2 kz => t_Row_has r1 (by omega) (fun h8 => kz _ _ _ _ _ _ _ _ rfl ?_) (fun h8 => kz _ _ _ _ _ _ _ _ rfl ?_)) rfl)
  · refine z_if_ne (t := 16) d_Hou_at_11 (by decide) (by first | omega | exact hw _ | exact hx _ _ | assumption) (fun _ => ?_) (fun h => absurd h (by decide))
    refine j_iload_n d_Hou_at_16 rfl ?_
    refine z_case (0) (fun h17_0 => ?_) (fun h17_0 => ?_)
    · refine z_tabIn (t := 48) (o := 31) d_Hou_at_17 (by first | omega | exact hw _ | exact hx _ _ | assumption) (by omega) (by omega) (by rw [h17_0]; rfl) (by decide) ?_
      refine j_aload_n d_Hou_at_48 rfl ?_
      refine gf_H_0_0 f_Hou_12 d_Hou_at_49 ?_
      refine gf_H_1_0 f_Hou_134 d_Hou_at_52 ?_
      refine gf_H_2_0 f_Hou_219 d_Hou_at_55 ?_
      refine j_iload_n d_Hou_at_58 rfl ?_
      refine al_H_3 d_Hou_at_59 (by omega) (by omega) ?_
      exact z_iret rfl d_Hou_at_60 (by unfold atR; rw [if_pos h17_0]; exact (hrs p h8.1 h8.2).1) (hQ (by omega) _ _ _ _ _ hR)
    refine z_case (1) (fun h17_1 => ?_) (fun h17_1 => ?_)
    · refine z_tabIn (t := 61) (o := 44) d_Hou_at_17 (by first | omega | exact hw _ | exact hx _ _ | assumption) (by omega) (by omega) (by rw [h17_1]; rfl) (by decide) ?_
      refine j_aload_n d_Hou_at_61 rfl ?_
      refine gf_H_0_0 f_Hou_12 d_Hou_at_62 ?_
      refine gf_H_1_0 f_Hou_134 d_Hou_at_65 ?_
      refine j_iload_n d_Hou_at_68 rfl ?_
      refine v_call1 d_Hou_at_69 c_Hou_222 rfl ⟨_, rfl, rfl⟩ (Nat.le_of_ble_eq_true rfl) (E_H_Row (fun Q2 kz => t_Row_mateOf hR h8.1 h8.2 (fun rl2 rp2 rm2 rd2 ro2 hR2 => kz _ _ _ _ _ _ _ _ rfl ?_)) rfl)
      exact z_iret rfl d_Hou_at_72 (by unfold atR; rw [if_neg (by omega), if_pos h17_1]) (hQ (by omega) _ _ _ _ _ hR2)
    refine z_case (2) (fun h17_2 => ?_) (fun h17_2 => ?_)
    · refine z_tabIn (t := 73) (o := 56) d_Hou_at_17 (by first | omega | exact hw _ | exact hx _ _ | assumption) (by omega) (by omega) (by rw [h17_2]; rfl) (by decide) ?_
      refine j_aload_n d_Hou_at_73 rfl ?_
      refine gf_H_0_0 f_Hou_12 d_Hou_at_74 ?_
      refine gf_H_1_0 f_Hou_134 d_Hou_at_77 ?_
      refine j_iload_n d_Hou_at_80 rfl ?_
      refine v_call1 d_Hou_at_81 c_Hou_225 rfl ⟨_, rfl, rfl⟩ (Nat.le_of_ble_eq_true rfl) (E_H_Row (fun Q2 kz => t_Row_depthOf hR h8.1 h8.2 (fun rl2 rp2 rm2 rd2 ro2 hR2 => kz _ _ _ _ _ _ _ _ rfl ?_)) rfl)
      exact z_iret rfl d_Hou_at_84 (by unfold atR; rw [if_neg (by omega), if_neg (by omega), if_pos h17_2]) (hQ (by omega) _ _ _ _ _ hR2)
    refine z_case (3) (fun h17_3 => ?_) (fun h17_3 => ?_)
    · refine z_tabIn (t := 85) (o := 68) d_Hou_at_17 (by first | omega | exact hw _ | exact hx _ _ | assumption) (by omega) (by omega) (by rw [h17_3]; rfl) (by decide) ?_
      refine j_aload_n d_Hou_at_85 rfl ?_
      refine gf_H_0_0 f_Hou_12 d_Hou_at_86 ?_
      refine gf_H_1_0 f_Hou_134 d_Hou_at_89 ?_
      refine j_iload_n d_Hou_at_92 rfl ?_
      refine v_call1 d_Hou_at_93 c_Hou_228 rfl ⟨_, rfl, rfl⟩ (Nat.le_of_ble_eq_true rfl) (E_H_Row (fun Q2 kz => t_Row_isLoose hR h8.1 h8.2 (fun hl rl2 rp2 rm2 rd2 ro2 hR2 => kz _ _ _ _ _ _ _ _ rfl ?_) (fun hl rl2 rp2 rm2 rd2 ro2 hR2 => kz _ _ _ _ _ _ _ _ rfl ?_)) rfl)
      · refine z_if_eq (t := 103) d_Hou_at_96 (by decide) (by first | omega | exact hw _ | exact hx _ _ | assumption) (fun h => absurd h (by decide)) (fun _ => ?_)
        refine z_iconst d_Hou_at_99 ?_
        refine j_goto (t := 104) d_Hou_at_100 (by decide) ?_
        exact z_iret rfl d_Hou_at_104 (by unfold atR; rw [if_neg (by omega), if_neg (by omega), if_neg (by omega), if_pos h17_3, if_pos ⟨by omega, hl.1⟩]) (hQ (by omega) _ _ _ _ _ hR2)
      · refine z_if_eq (t := 103) d_Hou_at_96 (by decide) (by first | omega | exact hw _ | exact hx _ _ | assumption) (fun _ => ?_) (fun h => absurd h (by decide))
        refine z_iconst d_Hou_at_103 ?_
        exact z_iret rfl d_Hou_at_104 (by unfold atR; rw [if_neg (by omega), if_neg (by omega), if_neg (by omega), if_pos h17_3, if_neg (fun z => hl ⟨z.2, by omega⟩)]) (hQ (by omega) _ _ _ _ _ hR2)
    refine z_tabOut (t := 105) d_Hou_at_17 (by first | omega | exact hw _ | exact hx _ _ | assumption) (by omega) (by decide) ?_
    refine z_iconst d_Hou_at_105 ?_
    exact z_iret rfl d_Hou_at_106 (by unfold atR; rw [if_neg (by omega), if_neg (by omega), if_neg (by omega), if_neg (by omega)]) (hQ (by omega) _ _ _ _ _ hR)
  · refine z_if_ne (t := 16) d_Hou_at_11 (by decide) (by first | omega | exact hw _ | exact hx _ _ | assumption) (fun h => absurd h (by decide)) (fun _ => ?_)
    refine z_iconst d_Hou_at_14 ?_
    exact z_iret rfl d_Hou_at_15 rfl (hf (by omega))
theorem t_Hou_whole {g : Bool} {d : Nat} {Q : List xM → Option Value → Prop} {hdn bl sp su lc fo rn rl rp pz pn fl td br dz ez rdn rlt rbr fz : Int} {rs rm rd ro tm kp by_ tk ps pv pw sk wd dk dl dg rsk wr rf : Int → Int} {qI aI bI cI gI pI yI : Nat → Int} {qF aF bF cF gF eF fF pF yF nF : Nat → Int → Int} {pr be wy : Int → Int → Int} {lx qx ax bx cx : Nat → Option Nat} {ts : List TD} {K : Int → Int} (hS : SI K lc fo rn rl rp rs rm rd tm) (hL : LB K lx ts) {a b : Int} (r1 : R32 a) (r2 : R32 b) (ht : 0 ≤ a ∧ a ≤ b ∧ b < K 0 → lo K a (b + 1) = 0 → ∀ rl rp rm rd ro, RI K rn rl rp rs rm rd → Q (W_H hdn bl sp su lc fo rn rl rp pz pn fl td br dz ez rdn rlt rbr fz rs rm rd ro tm kp by_ tk ps pv pw sk wd dk dl dg rsk wr rf qI aI bI cI gI pI yI qF aF bF cF gF eF fF pF yF nF pr be wy lx qx ax bx cx ts) (some (.int (ii 1)))) (hf : 0 ≤ a ∧ a ≤ b ∧ b < K 0 → ¬ lo K a (b + 1) = 0 → ∀ rl rp rm rd ro, RI K rn rl rp rs rm rd → Q (W_H hdn bl sp su lc fo rn rl rp pz pn fl td br dz ez rdn rlt rbr fz rs rm rd ro tm kp by_ tk ps pv pw sk wd dk dl dg rsk wr rf qI aI bI cI gI pI yI qF aF bF cF gF eF fF pF yF nF pr be wy lx qx ax bx cx ts) (some (.int (ii 0)))) (h3 : ¬ (0 ≤ a ∧ a ≤ b ∧ b < K 0) → Q (W_H hdn bl sp su lc fo rn rl rp pz pn fl td br dz ez rdn rlt rbr fz rs rm rd ro tm kp by_ tk ps pv pw sk wd dk dl dg rsk wr rf qI aI bI cI gI pI yI qF aF bF cF gF eF fF pF yF nF pr be wy lx qx ax bx cx ts) (some (.int (ii (-1))))) : CT g m_Hou_whole (d + 4) [.ref 0, .int (ii a), .int (ii b)] (W_H hdn bl sp su lc fo rn rl rp pz pn fl td br dz ez rdn rlt rbr fz rs rm rd ro tm kp by_ tk ps pv pw sk wd dk dl dg rsk wr rf qI aI bI cI gI pI yI qF aF bF cF gF eF fF pF yF nF pr be wy lx qx ax bx cx ts) 0 0 Q := by
  refine CT.of (by decide) (Nat.le_of_ble_eq_true rfl) ?_
  show SJ _ _ _ _ [some (.ref 0), some (.int (ii a)), some (.int (ii b))] [] _ _ _ _
  obtain ⟨hR, -, htm0, htm1, htm2, hlc, hfo⟩ := id hS
  obtain ⟨hrn, ⟨hn0, hn1⟩, hrs, hrp, hpu⟩ := id hR
  refine j_aload_n d_Hou_whole_0 rfl ?_
  refine gf_H_0_0 f_Hou_12 d_Hou_whole_1 ?_
  refine gf_H_1_0 f_Hou_134 d_Hou_whole_4 ?_
  refine j_iload_n d_Hou_whole_7 rfl ?_
  refine v_call1 d_Hou_whole_8 c_Hou_216 rfl ⟨_, rfl, rfl⟩ (Nat.le_of_ble_eq_true rfl) (E_H_Row (fun Q2 kz => t_Row_has r1 (by omega) (fun h8 => kz _ _ _ _ _ _ _ _ rfl ?_) (fun h8 => kz _ _ _ _ _ _ _ _ rfl ?_)) rfl)
  · refine z_if_eq (t := 33) d_Hou_whole_11 (by decide) (by first | omega | exact hw _ | exact hx _ _ | assumption) (fun h => absurd h (by decide)) (fun _ => ?_)
    refine j_aload_n d_Hou_whole_14 rfl ?_
    refine gf_H_0_0 f_Hou_12 d_Hou_whole_15 ?_
    refine gf_H_1_0 f_Hou_134 d_Hou_whole_18 ?_
    refine j_iload_n d_Hou_whole_21 rfl ?_
    refine v_call1 d_Hou_whole_22 c_Hou_216 rfl ⟨_, rfl, rfl⟩ (Nat.le_of_ble_eq_true rfl) (E_H_Row (fun Q2 kz => t_Row_has r2 (by omega) (fun h22 => kz _ _ _ _ _ _ _ _ rfl ?_) (fun h22 => kz _ _ _ _ _ _ _ _ rfl ?_)) rfl)
    · refine z_if_eq (t := 33) d_Hou_whole_25 (by decide) (by first | omega | exact hw _ | exact hx _ _ | assumption) (fun h => absurd h (by decide)) (fun _ => ?_)
      refine j_iload_n d_Hou_whole_28 rfl ?_
      refine j_iload_n d_Hou_whole_29 rfl ?_
      refine z_icmp_ge (t := 35) d_Hou_whole_30 (by decide) (by first | omega | exact hw _ | exact hx _ _ | assumption) (by first | omega | exact hw _ | exact hx _ _ | assumption) (fun h30 => ?_) (fun h30 => ?_)
      · refine j_aload_n d_Hou_whole_35 rfl ?_
        refine gf_H_0_0 f_Hou_12 d_Hou_whole_36 ?_
        refine gf_H_1_0 f_Hou_134 d_Hou_whole_39 ?_
        refine j_iload_n d_Hou_whole_42 rfl ?_
        refine j_iload_n d_Hou_whole_43 rfl ?_
        refine v_call2 d_Hou_whole_44 c_Hou_237 rfl ⟨_, rfl, rfl⟩ (Nat.le_of_ble_eq_true rfl) (E_H_Row (fun Q2 kz => t_Row_isWhole hR h8.1 (by omega) h22.2 (fun hl rl2 rp2 rm2 rd2 ro2 hR2 => kz _ _ _ _ _ _ _ _ rfl ?_) (fun hl rl2 rp2 rm2 rd2 ro2 hR2 => kz _ _ _ _ _ _ _ _ rfl ?_)) rfl)
        · refine z_if_eq (t := 54) d_Hou_whole_47 (by decide) (by first | omega | exact hw _ | exact hx _ _ | assumption) (fun h => absurd h (by decide)) (fun _ => ?_)
          refine z_iconst d_Hou_whole_50 ?_
          refine j_goto (t := 55) d_Hou_whole_51 (by decide) ?_
          exact z_iret rfl d_Hou_whole_55 rfl (ht (by omega) hl _ _ _ _ _ hR2)
        · refine z_if_eq (t := 54) d_Hou_whole_47 (by decide) (by first | omega | exact hw _ | exact hx _ _ | assumption) (fun _ => ?_) (fun h => absurd h (by decide))
          refine z_iconst d_Hou_whole_54 ?_
          exact z_iret rfl d_Hou_whole_55 rfl (hf (by omega) hl _ _ _ _ _ hR2)
      · refine z_iconst d_Hou_whole_33 ?_
        exact z_iret rfl d_Hou_whole_34 rfl (h3 (by omega))
    · refine z_if_eq (t := 33) d_Hou_whole_25 (by decide) (by first | omega | exact hw _ | exact hx _ _ | assumption) (fun _ => ?_) (fun h => absurd h (by decide))
      refine z_iconst d_Hou_whole_33 ?_
      exact z_iret rfl d_Hou_whole_34 rfl (h3 (by omega))
  · refine z_if_eq (t := 33) d_Hou_whole_11 (by decide) (by first | omega | exact hw _ | exact hx _ _ | assumption) (fun _ => ?_) (fun h => absurd h (by decide))
    refine z_iconst d_Hou_whole_33 ?_
    exact z_iret rfl d_Hou_whole_34 rfl (h3 (by omega))
def coR (K tm rf : Int → Int) (dz pz what : Int) : Int := if what = 1 then lo K 0 (K 0) else if what = 0 then K 0 else if what = 2 then K 24 else if what = 3 then dz else if what = 4 then pz else if 5 ≤ what ∧ what ≤ 9 then rf (what - 5) else if what = 10 then K 25 else if 11 ≤ what ∧ what ≤ 13 then tm (what - 11) else -1
theorem t_Hou_count {g : Bool} {d : Nat} {Q : List xM → Option Value → Prop} {hdn bl sp su lc fo rn rl rp pz pn fl td br dz ez rdn rlt rbr fz : Int} {rs rm rd ro tm kp by_ tk ps pv pw sk wd dk dl dg rsk wr rf : Int → Int} {qI aI bI cI gI pI yI : Nat → Int} {qF aF bF cF gF eF fF pF yF nF : Nat → Int → Int} {pr be wy : Int → Int → Int} {lx qx ax bx cx : Nat → Option Nat} {ts : List TD} {K : Int → Int} (hS : SI K lc fo rn rl rp rs rm rd tm) (hL : LB K lx ts) {what : Int} (r1 : R32 what) (hQ : ∀ rl rp rm rd ro, RI K rn rl rp rs rm rd → Q (W_H hdn bl sp su lc fo rn rl rp pz pn fl td br dz ez rdn rlt rbr fz rs rm rd ro tm kp by_ tk ps pv pw sk wd dk dl dg rsk wr rf qI aI bI cI gI pI yI qF aF bF cF gF eF fF pF yF nF pr be wy lx qx ax bx cx ts) (some (.int (ii (coR K tm rf dz pz what)))))  : CT g m_Hou_count (d + 4) [.ref 0, .int (ii what)] (W_H hdn bl sp su lc fo rn rl rp pz pn fl td br dz ez rdn rlt rbr fz rs rm rd ro tm kp by_ tk ps pv pw sk wd dk dl dg rsk wr rf qI aI bI cI gI pI yI qF aF bF cF gF eF fF pF yF nF pr be wy lx qx ax bx cx ts) 0 0 Q := by
  refine CT.of (by decide) (Nat.le_of_ble_eq_true rfl) ?_
  show SJ _ _ _ _ [some (.ref 0), some (.int (ii what))] [] _ _ _ _
  obtain ⟨hR, -, htm0, htm1, htm2, hlc, hfo⟩ := id hS
  obtain ⟨hrn, ⟨hn0, hn1⟩, hrs, hrp, hpu⟩ := id hR
  refine j_iload_n d_Hou_count_0 rfl ?_
  refine z_iconst d_Hou_count_1 ?_
  refine z_icmp_lt (t := 20) d_Hou_count_2 (by decide) (by first | omega | exact hw _ | exact hx _ _ | assumption) (by first | omega | exact hw _ | exact hx _ _ | assumption) (fun h2 => ?_) (fun h2 => ?_)
  · refine j_iload_n d_Hou_count_20 rfl ?_
    refine z_bipush d_Hou_count_21 (by decide) ?_
    refine z_icmp_lt (t := 45) d_Hou_count_23 (by decide) (by first | omega | exact hw _ | exact hx _ _ | assumption) (by first | omega | exact hw _ | exact hx _ _ | assumption) (fun h23 => ?_) (fun h23 => ?_)
    · refine j_iload_n d_Hou_count_45 rfl ?_
      refine z_case (0) (fun h46_0 => ?_) (fun h46_0 => ?_)
      · refine z_tabIn (t := 104) (o := 58) d_Hou_count_46 (by first | omega | exact hw _ | exact hx _ _ | assumption) (by omega) (by omega) (by rw [h46_0]; rfl) (by decide) ?_
        refine j_aload_n d_Hou_count_104 rfl ?_
        refine gf_H_0_0 f_Hou_12 d_Hou_count_105 ?_
        refine gf_H_1_0 f_Hou_134 d_Hou_count_108 ?_
        refine gf_H_2_1 f_Hou_138 d_Hou_count_111 ?_
        exact z_iret rfl d_Hou_count_114 (by unfold coR; rw [if_neg (by omega), if_pos (by omega)]; exact hrn) (hQ _ _ _ _ _ hR)
      refine z_case (1) (fun h46_1 => ?_) (fun h46_1 => ?_)
      · refine z_tabIn (t := 115) (o := 69) d_Hou_count_46 (by first | omega | exact hw _ | exact hx _ _ | assumption) (by omega) (by omega) (by rw [h46_1]; rfl) (by decide) ?_
        refine j_aload_n d_Hou_count_115 rfl ?_
        refine gf_H_0_0 f_Hou_12 d_Hou_count_116 ?_
        refine gf_H_1_0 f_Hou_134 d_Hou_count_119 ?_
        refine v_call0 d_Hou_count_122 c_Hou_331 rfl ⟨_, rfl, rfl⟩ (Nat.le_of_ble_eq_true rfl) (E_H_Row (fun Q2 kz => t_Row_looseOnes hR (fun rl2 rp2 rm2 rd2 ro2 hR2 => kz _ _ _ _ _ _ _ _ rfl ?_)) rfl)
        exact z_iret rfl d_Hou_count_125 (by unfold coR; rw [if_pos (by omega)]) (hQ _ _ _ _ _ hR2)
      refine z_case (2) (fun h46_2 => ?_) (fun h46_2 => ?_)
      · refine z_tabIn (t := 126) (o := 80) d_Hou_count_46 (by first | omega | exact hw _ | exact hx _ _ | assumption) (by omega) (by omega) (by rw [h46_2]; rfl) (by decide) ?_
        refine j_aload_n d_Hou_count_126 rfl ?_
        refine gf_H_0_0 f_Hou_12 d_Hou_count_127 ?_
        refine gf_H_1_3 f_Hou_147 d_Hou_count_130 ?_
        exact z_iret rfl d_Hou_count_133 (by unfold coR; rw [if_neg (by omega), if_neg (by omega), if_pos (by omega)]; exact hlc) (hQ _ _ _ _ _ hR)
      refine z_case (3) (fun h46_3 => ?_) (fun h46_3 => ?_)
      · refine z_tabIn (t := 134) (o := 88) d_Hou_count_46 (by first | omega | exact hw _ | exact hx _ _ | assumption) (by omega) (by omega) (by rw [h46_3]; rfl) (by decide) ?_
        refine j_aload_n d_Hou_count_134 rfl ?_
        refine gf_H_0_7 f_Hou_55 d_Hou_count_135 ?_
        refine gf_H_38_0 f_Hou_334 d_Hou_count_138 ?_
        exact z_iret rfl d_Hou_count_141 (by unfold coR; rw [if_neg (by omega), if_neg (by omega), if_neg (by omega), if_pos (by omega)]) (hQ _ _ _ _ _ hR)
      refine z_case (4) (fun h46_4 => ?_) (fun h46_4 => ?_)
      · refine z_tabIn (t := 142) (o := 96) d_Hou_count_46 (by first | omega | exact hw _ | exact hx _ _ | assumption) (by omega) (by omega) (by rw [h46_4]; rfl) (by decide) ?_
        refine j_aload_n d_Hou_count_142 rfl ?_
        refine gf_H_0_4 f_Hou_30 d_Hou_count_143 ?_
        refine gf_H_19_1 f_Hou_124 d_Hou_count_146 ?_
        exact z_iret rfl d_Hou_count_149 (by unfold coR; rw [if_neg (by omega), if_neg (by omega), if_neg (by omega), if_neg (by omega), if_pos (by omega)]) (hQ _ _ _ _ _ hR)
      refine z_case (5) (fun h46_5 => ?_) (fun h46_5 => ?_)
      · refine z_tabIn (t := 158) (o := 112) d_Hou_count_46 (by first | omega | exact hw _ | exact hx _ _ | assumption) (by omega) (by omega) (by rw [h46_5]; rfl) (by decide) ?_
        refine z_iconst d_Hou_count_158 ?_
        exact z_iret rfl d_Hou_count_159 (by unfold coR; rw [if_neg (by omega), if_neg (by omega), if_neg (by omega), if_neg (by omega), if_neg (by omega), if_neg (by omega), if_neg (by omega), if_neg (by omega)]) (hQ _ _ _ _ _ hR)
      refine z_case (6) (fun h46_6 => ?_) (fun h46_6 => ?_)
      · refine z_tabIn (t := 158) (o := 112) d_Hou_count_46 (by first | omega | exact hw _ | exact hx _ _ | assumption) (by omega) (by omega) (by rw [h46_6]; rfl) (by decide) ?_
        refine z_iconst d_Hou_count_158 ?_
        exact z_iret rfl d_Hou_count_159 (by unfold coR; rw [if_neg (by omega), if_neg (by omega), if_neg (by omega), if_neg (by omega), if_neg (by omega), if_neg (by omega), if_neg (by omega), if_neg (by omega)]) (hQ _ _ _ _ _ hR)
      refine z_case (7) (fun h46_7 => ?_) (fun h46_7 => ?_)
      · refine z_tabIn (t := 158) (o := 112) d_Hou_count_46 (by first | omega | exact hw _ | exact hx _ _ | assumption) (by omega) (by omega) (by rw [h46_7]; rfl) (by decide) ?_
        refine z_iconst d_Hou_count_158 ?_
        exact z_iret rfl d_Hou_count_159 (by unfold coR; rw [if_neg (by omega), if_neg (by omega), if_neg (by omega), if_neg (by omega), if_neg (by omega), if_neg (by omega), if_neg (by omega), if_neg (by omega)]) (hQ _ _ _ _ _ hR)
      refine z_case (8) (fun h46_8 => ?_) (fun h46_8 => ?_)
      · refine z_tabIn (t := 158) (o := 112) d_Hou_count_46 (by first | omega | exact hw _ | exact hx _ _ | assumption) (by omega) (by omega) (by rw [h46_8]; rfl) (by decide) ?_
        refine z_iconst d_Hou_count_158 ?_
        exact z_iret rfl d_Hou_count_159 (by unfold coR; rw [if_neg (by omega), if_neg (by omega), if_neg (by omega), if_neg (by omega), if_neg (by omega), if_neg (by omega), if_neg (by omega), if_neg (by omega)]) (hQ _ _ _ _ _ hR)
      refine z_case (9) (fun h46_9 => ?_) (fun h46_9 => ?_)
      · refine z_tabIn (t := 158) (o := 112) d_Hou_count_46 (by first | omega | exact hw _ | exact hx _ _ | assumption) (by omega) (by omega) (by rw [h46_9]; rfl) (by decide) ?_
        refine z_iconst d_Hou_count_158 ?_
        exact z_iret rfl d_Hou_count_159 (by unfold coR; rw [if_neg (by omega), if_neg (by omega), if_neg (by omega), if_neg (by omega), if_neg (by omega), if_neg (by omega), if_neg (by omega), if_neg (by omega)]) (hQ _ _ _ _ _ hR)
      refine z_case (10) (fun h46_10 => ?_) (fun h46_10 => ?_)
      · refine z_tabIn (t := 150) (o := 104) d_Hou_count_46 (by first | omega | exact hw _ | exact hx _ _ | assumption) (by omega) (by omega) (by rw [h46_10]; rfl) (by decide) ?_
        refine j_aload_n d_Hou_count_150 rfl ?_
        refine gf_H_0_0 f_Hou_12 d_Hou_count_151 ?_
        refine gf_H_1_4 f_Hou_181 d_Hou_count_154 ?_
        exact z_iret rfl d_Hou_count_157 (by unfold coR; rw [if_neg (by omega), if_neg (by omega), if_neg (by omega), if_neg (by omega), if_neg (by omega), if_neg (by omega), if_pos (by omega)]; exact hfo) (hQ _ _ _ _ _ hR)
      refine z_tabOut (t := 158) d_Hou_count_46 (by first | omega | exact hw _ | exact hx _ _ | assumption) (by omega) (by decide) ?_
      refine z_iconst d_Hou_count_158 ?_
      exact z_iret rfl d_Hou_count_159 (by unfold coR; rw [if_neg (by omega), if_neg (by omega), if_neg (by omega), if_neg (by omega), if_neg (by omega), if_neg (by omega), if_neg (by omega), if_neg (by omega)]) (hQ _ _ _ _ _ hR)
    · refine j_iload_n d_Hou_count_26 rfl ?_
      refine z_bipush d_Hou_count_27 (by decide) ?_
      refine z_icmp_gt (t := 45) d_Hou_count_29 (by decide) (by first | omega | exact hw _ | exact hx _ _ | assumption) (by first | omega | exact hw _ | exact hx _ _ | assumption) (fun h29 => ?_) (fun h29 => ?_)
      · refine j_iload_n d_Hou_count_45 rfl ?_
        refine z_case (0) (fun h46_0 => ?_) (fun h46_0 => ?_)
        · refine z_tabIn (t := 104) (o := 58) d_Hou_count_46 (by first | omega | exact hw _ | exact hx _ _ | assumption) (by omega) (by omega) (by rw [h46_0]; rfl) (by decide) ?_
          refine j_aload_n d_Hou_count_104 rfl ?_
          refine gf_H_0_0 f_Hou_12 d_Hou_count_105 ?_
          refine gf_H_1_0 f_Hou_134 d_Hou_count_108 ?_
          refine gf_H_2_1 f_Hou_138 d_Hou_count_111 ?_
          exact z_iret rfl d_Hou_count_114 (by unfold coR; rw [if_neg (by omega), if_pos (by omega)]; exact hrn) (hQ _ _ _ _ _ hR)
        refine z_case (1) (fun h46_1 => ?_) (fun h46_1 => ?_)
        · refine z_tabIn (t := 115) (o := 69) d_Hou_count_46 (by first | omega | exact hw _ | exact hx _ _ | assumption) (by omega) (by omega) (by rw [h46_1]; rfl) (by decide) ?_
          refine j_aload_n d_Hou_count_115 rfl ?_
          refine gf_H_0_0 f_Hou_12 d_Hou_count_116 ?_
          refine gf_H_1_0 f_Hou_134 d_Hou_count_119 ?_
          refine v_call0 d_Hou_count_122 c_Hou_331 rfl ⟨_, rfl, rfl⟩ (Nat.le_of_ble_eq_true rfl) (E_H_Row (fun Q2 kz => t_Row_looseOnes hR (fun rl2 rp2 rm2 rd2 ro2 hR2 => kz _ _ _ _ _ _ _ _ rfl ?_)) rfl)
          exact z_iret rfl d_Hou_count_125 (by unfold coR; rw [if_pos (by omega)]) (hQ _ _ _ _ _ hR2)
        refine z_case (2) (fun h46_2 => ?_) (fun h46_2 => ?_)
        · refine z_tabIn (t := 126) (o := 80) d_Hou_count_46 (by first | omega | exact hw _ | exact hx _ _ | assumption) (by omega) (by omega) (by rw [h46_2]; rfl) (by decide) ?_
          refine j_aload_n d_Hou_count_126 rfl ?_
          refine gf_H_0_0 f_Hou_12 d_Hou_count_127 ?_
          refine gf_H_1_3 f_Hou_147 d_Hou_count_130 ?_
          exact z_iret rfl d_Hou_count_133 (by unfold coR; rw [if_neg (by omega), if_neg (by omega), if_pos (by omega)]; exact hlc) (hQ _ _ _ _ _ hR)
        refine z_case (3) (fun h46_3 => ?_) (fun h46_3 => ?_)
        · refine z_tabIn (t := 134) (o := 88) d_Hou_count_46 (by first | omega | exact hw _ | exact hx _ _ | assumption) (by omega) (by omega) (by rw [h46_3]; rfl) (by decide) ?_
          refine j_aload_n d_Hou_count_134 rfl ?_
          refine gf_H_0_7 f_Hou_55 d_Hou_count_135 ?_
          refine gf_H_38_0 f_Hou_334 d_Hou_count_138 ?_
          exact z_iret rfl d_Hou_count_141 (by unfold coR; rw [if_neg (by omega), if_neg (by omega), if_neg (by omega), if_pos (by omega)]) (hQ _ _ _ _ _ hR)
        refine z_case (4) (fun h46_4 => ?_) (fun h46_4 => ?_)
        · refine z_tabIn (t := 142) (o := 96) d_Hou_count_46 (by first | omega | exact hw _ | exact hx _ _ | assumption) (by omega) (by omega) (by rw [h46_4]; rfl) (by decide) ?_
          refine j_aload_n d_Hou_count_142 rfl ?_
          refine gf_H_0_4 f_Hou_30 d_Hou_count_143 ?_
          refine gf_H_19_1 f_Hou_124 d_Hou_count_146 ?_
          exact z_iret rfl d_Hou_count_149 (by unfold coR; rw [if_neg (by omega), if_neg (by omega), if_neg (by omega), if_neg (by omega), if_pos (by omega)]) (hQ _ _ _ _ _ hR)
        refine z_case (5) (fun h46_5 => ?_) (fun h46_5 => ?_)
        · refine z_tabIn (t := 158) (o := 112) d_Hou_count_46 (by first | omega | exact hw _ | exact hx _ _ | assumption) (by omega) (by omega) (by rw [h46_5]; rfl) (by decide) ?_
          refine z_iconst d_Hou_count_158 ?_
          exact z_iret rfl d_Hou_count_159 (by unfold coR; rw [if_neg (by omega), if_neg (by omega), if_neg (by omega), if_neg (by omega), if_neg (by omega), if_neg (by omega), if_neg (by omega), if_neg (by omega)]) (hQ _ _ _ _ _ hR)
        refine z_case (6) (fun h46_6 => ?_) (fun h46_6 => ?_)
        · refine z_tabIn (t := 158) (o := 112) d_Hou_count_46 (by first | omega | exact hw _ | exact hx _ _ | assumption) (by omega) (by omega) (by rw [h46_6]; rfl) (by decide) ?_
          refine z_iconst d_Hou_count_158 ?_
          exact z_iret rfl d_Hou_count_159 (by unfold coR; rw [if_neg (by omega), if_neg (by omega), if_neg (by omega), if_neg (by omega), if_neg (by omega), if_neg (by omega), if_neg (by omega), if_neg (by omega)]) (hQ _ _ _ _ _ hR)
        refine z_case (7) (fun h46_7 => ?_) (fun h46_7 => ?_)
        · refine z_tabIn (t := 158) (o := 112) d_Hou_count_46 (by first | omega | exact hw _ | exact hx _ _ | assumption) (by omega) (by omega) (by rw [h46_7]; rfl) (by decide) ?_
          refine z_iconst d_Hou_count_158 ?_
          exact z_iret rfl d_Hou_count_159 (by unfold coR; rw [if_neg (by omega), if_neg (by omega), if_neg (by omega), if_neg (by omega), if_neg (by omega), if_neg (by omega), if_neg (by omega), if_neg (by omega)]) (hQ _ _ _ _ _ hR)
        refine z_case (8) (fun h46_8 => ?_) (fun h46_8 => ?_)
        · refine z_tabIn (t := 158) (o := 112) d_Hou_count_46 (by first | omega | exact hw _ | exact hx _ _ | assumption) (by omega) (by omega) (by rw [h46_8]; rfl) (by decide) ?_
          refine z_iconst d_Hou_count_158 ?_
          exact z_iret rfl d_Hou_count_159 (by unfold coR; rw [if_neg (by omega), if_neg (by omega), if_neg (by omega), if_neg (by omega), if_neg (by omega), if_neg (by omega), if_neg (by omega), if_neg (by omega)]) (hQ _ _ _ _ _ hR)
        refine z_case (9) (fun h46_9 => ?_) (fun h46_9 => ?_)
        · refine z_tabIn (t := 158) (o := 112) d_Hou_count_46 (by first | omega | exact hw _ | exact hx _ _ | assumption) (by omega) (by omega) (by rw [h46_9]; rfl) (by decide) ?_
          refine z_iconst d_Hou_count_158 ?_
          exact z_iret rfl d_Hou_count_159 (by unfold coR; rw [if_neg (by omega), if_neg (by omega), if_neg (by omega), if_neg (by omega), if_neg (by omega), if_neg (by omega), if_neg (by omega), if_neg (by omega)]) (hQ _ _ _ _ _ hR)
        refine z_case (10) (fun h46_10 => ?_) (fun h46_10 => ?_)
        · refine z_tabIn (t := 150) (o := 104) d_Hou_count_46 (by first | omega | exact hw _ | exact hx _ _ | assumption) (by omega) (by omega) (by rw [h46_10]; rfl) (by decide) ?_
          refine j_aload_n d_Hou_count_150 rfl ?_
          refine gf_H_0_0 f_Hou_12 d_Hou_count_151 ?_
          refine gf_H_1_4 f_Hou_181 d_Hou_count_154 ?_
          exact z_iret rfl d_Hou_count_157 (by unfold coR; rw [if_neg (by omega), if_neg (by omega), if_neg (by omega), if_neg (by omega), if_neg (by omega), if_neg (by omega), if_pos (by omega)]; exact hfo) (hQ _ _ _ _ _ hR)
        refine z_tabOut (t := 158) d_Hou_count_46 (by first | omega | exact hw _ | exact hx _ _ | assumption) (by omega) (by decide) ?_
        refine z_iconst d_Hou_count_158 ?_
        exact z_iret rfl d_Hou_count_159 (by unfold coR; rw [if_neg (by omega), if_neg (by omega), if_neg (by omega), if_neg (by omega), if_neg (by omega), if_neg (by omega), if_neg (by omega), if_neg (by omega)]) (hQ _ _ _ _ _ hR)
      · refine j_aload_n d_Hou_count_32 rfl ?_
        refine gf_H_0_0 f_Hou_12 d_Hou_count_33 ?_
        refine gf_H_1_1 f_Hou_115 d_Hou_count_36 ?_
        refine j_iload_n d_Hou_count_39 rfl ?_
        refine z_bipush d_Hou_count_40 (by decide) ?_
        refine z_isub d_Hou_count_42 ?_
        refine al_H_7 d_Hou_count_43 (by omega) (by omega) ?_
        exact z_iret rfl d_Hou_count_44 (by unfold coR; rw [if_neg (by omega), if_neg (by omega), if_neg (by omega), if_neg (by omega), if_neg (by omega), if_neg (by omega), if_neg (by omega), if_pos (by omega)]) (hQ _ _ _ _ _ hR)
  · refine j_iload_n d_Hou_count_5 rfl ?_
    refine z_bipush d_Hou_count_6 (by decide) ?_
    refine z_icmp_gt (t := 20) d_Hou_count_8 (by decide) (by first | omega | exact hw _ | exact hx _ _ | assumption) (by first | omega | exact hw _ | exact hx _ _ | assumption) (fun h8 => ?_) (fun h8 => ?_)
    · refine j_iload_n d_Hou_count_20 rfl ?_
      refine z_bipush d_Hou_count_21 (by decide) ?_
      refine z_icmp_lt (t := 45) d_Hou_count_23 (by decide) (by first | omega | exact hw _ | exact hx _ _ | assumption) (by first | omega | exact hw _ | exact hx _ _ | assumption) (fun h23 => ?_) (fun h23 => ?_)
      · refine j_iload_n d_Hou_count_45 rfl ?_
        refine z_case (0) (fun h46_0 => ?_) (fun h46_0 => ?_)
        · refine z_tabIn (t := 104) (o := 58) d_Hou_count_46 (by first | omega | exact hw _ | exact hx _ _ | assumption) (by omega) (by omega) (by rw [h46_0]; rfl) (by decide) ?_
          refine j_aload_n d_Hou_count_104 rfl ?_
          refine gf_H_0_0 f_Hou_12 d_Hou_count_105 ?_
          refine gf_H_1_0 f_Hou_134 d_Hou_count_108 ?_
          refine gf_H_2_1 f_Hou_138 d_Hou_count_111 ?_
          exact z_iret rfl d_Hou_count_114 (by unfold coR; rw [if_neg (by omega), if_pos (by omega)]; exact hrn) (hQ _ _ _ _ _ hR)
        refine z_case (1) (fun h46_1 => ?_) (fun h46_1 => ?_)
        · refine z_tabIn (t := 115) (o := 69) d_Hou_count_46 (by first | omega | exact hw _ | exact hx _ _ | assumption) (by omega) (by omega) (by rw [h46_1]; rfl) (by decide) ?_
          refine j_aload_n d_Hou_count_115 rfl ?_
          refine gf_H_0_0 f_Hou_12 d_Hou_count_116 ?_
          refine gf_H_1_0 f_Hou_134 d_Hou_count_119 ?_
          refine v_call0 d_Hou_count_122 c_Hou_331 rfl ⟨_, rfl, rfl⟩ (Nat.le_of_ble_eq_true rfl) (E_H_Row (fun Q2 kz => t_Row_looseOnes hR (fun rl2 rp2 rm2 rd2 ro2 hR2 => kz _ _ _ _ _ _ _ _ rfl ?_)) rfl)
          exact z_iret rfl d_Hou_count_125 (by unfold coR; rw [if_pos (by omega)]) (hQ _ _ _ _ _ hR2)
        refine z_case (2) (fun h46_2 => ?_) (fun h46_2 => ?_)
        · refine z_tabIn (t := 126) (o := 80) d_Hou_count_46 (by first | omega | exact hw _ | exact hx _ _ | assumption) (by omega) (by omega) (by rw [h46_2]; rfl) (by decide) ?_
          refine j_aload_n d_Hou_count_126 rfl ?_
          refine gf_H_0_0 f_Hou_12 d_Hou_count_127 ?_
          refine gf_H_1_3 f_Hou_147 d_Hou_count_130 ?_
          exact z_iret rfl d_Hou_count_133 (by unfold coR; rw [if_neg (by omega), if_neg (by omega), if_pos (by omega)]; exact hlc) (hQ _ _ _ _ _ hR)
        refine z_case (3) (fun h46_3 => ?_) (fun h46_3 => ?_)
        · refine z_tabIn (t := 134) (o := 88) d_Hou_count_46 (by first | omega | exact hw _ | exact hx _ _ | assumption) (by omega) (by omega) (by rw [h46_3]; rfl) (by decide) ?_
          refine j_aload_n d_Hou_count_134 rfl ?_
          refine gf_H_0_7 f_Hou_55 d_Hou_count_135 ?_
          refine gf_H_38_0 f_Hou_334 d_Hou_count_138 ?_
          exact z_iret rfl d_Hou_count_141 (by unfold coR; rw [if_neg (by omega), if_neg (by omega), if_neg (by omega), if_pos (by omega)]) (hQ _ _ _ _ _ hR)
        refine z_case (4) (fun h46_4 => ?_) (fun h46_4 => ?_)
        · refine z_tabIn (t := 142) (o := 96) d_Hou_count_46 (by first | omega | exact hw _ | exact hx _ _ | assumption) (by omega) (by omega) (by rw [h46_4]; rfl) (by decide) ?_
          refine j_aload_n d_Hou_count_142 rfl ?_
          refine gf_H_0_4 f_Hou_30 d_Hou_count_143 ?_
          refine gf_H_19_1 f_Hou_124 d_Hou_count_146 ?_
          exact z_iret rfl d_Hou_count_149 (by unfold coR; rw [if_neg (by omega), if_neg (by omega), if_neg (by omega), if_neg (by omega), if_pos (by omega)]) (hQ _ _ _ _ _ hR)
        refine z_case (5) (fun h46_5 => ?_) (fun h46_5 => ?_)
        · refine z_tabIn (t := 158) (o := 112) d_Hou_count_46 (by first | omega | exact hw _ | exact hx _ _ | assumption) (by omega) (by omega) (by rw [h46_5]; rfl) (by decide) ?_
          refine z_iconst d_Hou_count_158 ?_
          exact z_iret rfl d_Hou_count_159 (by unfold coR; rw [if_neg (by omega), if_neg (by omega), if_neg (by omega), if_neg (by omega), if_neg (by omega), if_neg (by omega), if_neg (by omega), if_neg (by omega)]) (hQ _ _ _ _ _ hR)
        refine z_case (6) (fun h46_6 => ?_) (fun h46_6 => ?_)
        · refine z_tabIn (t := 158) (o := 112) d_Hou_count_46 (by first | omega | exact hw _ | exact hx _ _ | assumption) (by omega) (by omega) (by rw [h46_6]; rfl) (by decide) ?_
          refine z_iconst d_Hou_count_158 ?_
          exact z_iret rfl d_Hou_count_159 (by unfold coR; rw [if_neg (by omega), if_neg (by omega), if_neg (by omega), if_neg (by omega), if_neg (by omega), if_neg (by omega), if_neg (by omega), if_neg (by omega)]) (hQ _ _ _ _ _ hR)
        refine z_case (7) (fun h46_7 => ?_) (fun h46_7 => ?_)
        · refine z_tabIn (t := 158) (o := 112) d_Hou_count_46 (by first | omega | exact hw _ | exact hx _ _ | assumption) (by omega) (by omega) (by rw [h46_7]; rfl) (by decide) ?_
          refine z_iconst d_Hou_count_158 ?_
          exact z_iret rfl d_Hou_count_159 (by unfold coR; rw [if_neg (by omega), if_neg (by omega), if_neg (by omega), if_neg (by omega), if_neg (by omega), if_neg (by omega), if_neg (by omega), if_neg (by omega)]) (hQ _ _ _ _ _ hR)
        refine z_case (8) (fun h46_8 => ?_) (fun h46_8 => ?_)
        · refine z_tabIn (t := 158) (o := 112) d_Hou_count_46 (by first | omega | exact hw _ | exact hx _ _ | assumption) (by omega) (by omega) (by rw [h46_8]; rfl) (by decide) ?_
          refine z_iconst d_Hou_count_158 ?_
          exact z_iret rfl d_Hou_count_159 (by unfold coR; rw [if_neg (by omega), if_neg (by omega), if_neg (by omega), if_neg (by omega), if_neg (by omega), if_neg (by omega), if_neg (by omega), if_neg (by omega)]) (hQ _ _ _ _ _ hR)
        refine z_case (9) (fun h46_9 => ?_) (fun h46_9 => ?_)
        · refine z_tabIn (t := 158) (o := 112) d_Hou_count_46 (by first | omega | exact hw _ | exact hx _ _ | assumption) (by omega) (by omega) (by rw [h46_9]; rfl) (by decide) ?_
          refine z_iconst d_Hou_count_158 ?_
          exact z_iret rfl d_Hou_count_159 (by unfold coR; rw [if_neg (by omega), if_neg (by omega), if_neg (by omega), if_neg (by omega), if_neg (by omega), if_neg (by omega), if_neg (by omega), if_neg (by omega)]) (hQ _ _ _ _ _ hR)
        refine z_case (10) (fun h46_10 => ?_) (fun h46_10 => ?_)
        · refine z_tabIn (t := 150) (o := 104) d_Hou_count_46 (by first | omega | exact hw _ | exact hx _ _ | assumption) (by omega) (by omega) (by rw [h46_10]; rfl) (by decide) ?_
          refine j_aload_n d_Hou_count_150 rfl ?_
          refine gf_H_0_0 f_Hou_12 d_Hou_count_151 ?_
          refine gf_H_1_4 f_Hou_181 d_Hou_count_154 ?_
          exact z_iret rfl d_Hou_count_157 (by unfold coR; rw [if_neg (by omega), if_neg (by omega), if_neg (by omega), if_neg (by omega), if_neg (by omega), if_neg (by omega), if_pos (by omega)]; exact hfo) (hQ _ _ _ _ _ hR)
        refine z_tabOut (t := 158) d_Hou_count_46 (by first | omega | exact hw _ | exact hx _ _ | assumption) (by omega) (by decide) ?_
        refine z_iconst d_Hou_count_158 ?_
        exact z_iret rfl d_Hou_count_159 (by unfold coR; rw [if_neg (by omega), if_neg (by omega), if_neg (by omega), if_neg (by omega), if_neg (by omega), if_neg (by omega), if_neg (by omega), if_neg (by omega)]) (hQ _ _ _ _ _ hR)
      · refine j_iload_n d_Hou_count_26 rfl ?_
        refine z_bipush d_Hou_count_27 (by decide) ?_
        refine z_icmp_gt (t := 45) d_Hou_count_29 (by decide) (by first | omega | exact hw _ | exact hx _ _ | assumption) (by first | omega | exact hw _ | exact hx _ _ | assumption) (fun h29 => ?_) (fun h29 => ?_)
        · refine j_iload_n d_Hou_count_45 rfl ?_
          refine z_case (0) (fun h46_0 => ?_) (fun h46_0 => ?_)
          · refine z_tabIn (t := 104) (o := 58) d_Hou_count_46 (by first | omega | exact hw _ | exact hx _ _ | assumption) (by omega) (by omega) (by rw [h46_0]; rfl) (by decide) ?_
            refine j_aload_n d_Hou_count_104 rfl ?_
            refine gf_H_0_0 f_Hou_12 d_Hou_count_105 ?_
            refine gf_H_1_0 f_Hou_134 d_Hou_count_108 ?_
            refine gf_H_2_1 f_Hou_138 d_Hou_count_111 ?_
            exact z_iret rfl d_Hou_count_114 (by unfold coR; rw [if_neg (by omega), if_pos (by omega)]; exact hrn) (hQ _ _ _ _ _ hR)
          refine z_case (1) (fun h46_1 => ?_) (fun h46_1 => ?_)
          · refine z_tabIn (t := 115) (o := 69) d_Hou_count_46 (by first | omega | exact hw _ | exact hx _ _ | assumption) (by omega) (by omega) (by rw [h46_1]; rfl) (by decide) ?_
            refine j_aload_n d_Hou_count_115 rfl ?_
            refine gf_H_0_0 f_Hou_12 d_Hou_count_116 ?_
            refine gf_H_1_0 f_Hou_134 d_Hou_count_119 ?_
            refine v_call0 d_Hou_count_122 c_Hou_331 rfl ⟨_, rfl, rfl⟩ (Nat.le_of_ble_eq_true rfl) (E_H_Row (fun Q2 kz => t_Row_looseOnes hR (fun rl2 rp2 rm2 rd2 ro2 hR2 => kz _ _ _ _ _ _ _ _ rfl ?_)) rfl)
            exact z_iret rfl d_Hou_count_125 (by unfold coR; rw [if_pos (by omega)]) (hQ _ _ _ _ _ hR2)
          refine z_case (2) (fun h46_2 => ?_) (fun h46_2 => ?_)
          · refine z_tabIn (t := 126) (o := 80) d_Hou_count_46 (by first | omega | exact hw _ | exact hx _ _ | assumption) (by omega) (by omega) (by rw [h46_2]; rfl) (by decide) ?_
            refine j_aload_n d_Hou_count_126 rfl ?_
            refine gf_H_0_0 f_Hou_12 d_Hou_count_127 ?_
            refine gf_H_1_3 f_Hou_147 d_Hou_count_130 ?_
            exact z_iret rfl d_Hou_count_133 (by unfold coR; rw [if_neg (by omega), if_neg (by omega), if_pos (by omega)]; exact hlc) (hQ _ _ _ _ _ hR)
          refine z_case (3) (fun h46_3 => ?_) (fun h46_3 => ?_)
          · refine z_tabIn (t := 134) (o := 88) d_Hou_count_46 (by first | omega | exact hw _ | exact hx _ _ | assumption) (by omega) (by omega) (by rw [h46_3]; rfl) (by decide) ?_
            refine j_aload_n d_Hou_count_134 rfl ?_
            refine gf_H_0_7 f_Hou_55 d_Hou_count_135 ?_
            refine gf_H_38_0 f_Hou_334 d_Hou_count_138 ?_
            exact z_iret rfl d_Hou_count_141 (by unfold coR; rw [if_neg (by omega), if_neg (by omega), if_neg (by omega), if_pos (by omega)]) (hQ _ _ _ _ _ hR)
          refine z_case (4) (fun h46_4 => ?_) (fun h46_4 => ?_)
          · refine z_tabIn (t := 142) (o := 96) d_Hou_count_46 (by first | omega | exact hw _ | exact hx _ _ | assumption) (by omega) (by omega) (by rw [h46_4]; rfl) (by decide) ?_
            refine j_aload_n d_Hou_count_142 rfl ?_
            refine gf_H_0_4 f_Hou_30 d_Hou_count_143 ?_
            refine gf_H_19_1 f_Hou_124 d_Hou_count_146 ?_
            exact z_iret rfl d_Hou_count_149 (by unfold coR; rw [if_neg (by omega), if_neg (by omega), if_neg (by omega), if_neg (by omega), if_pos (by omega)]) (hQ _ _ _ _ _ hR)
          refine z_case (5) (fun h46_5 => ?_) (fun h46_5 => ?_)
          · refine z_tabIn (t := 158) (o := 112) d_Hou_count_46 (by first | omega | exact hw _ | exact hx _ _ | assumption) (by omega) (by omega) (by rw [h46_5]; rfl) (by decide) ?_
            refine z_iconst d_Hou_count_158 ?_
            exact z_iret rfl d_Hou_count_159 (by unfold coR; rw [if_neg (by omega), if_neg (by omega), if_neg (by omega), if_neg (by omega), if_neg (by omega), if_neg (by omega), if_neg (by omega), if_neg (by omega)]) (hQ _ _ _ _ _ hR)
          refine z_case (6) (fun h46_6 => ?_) (fun h46_6 => ?_)
          · refine z_tabIn (t := 158) (o := 112) d_Hou_count_46 (by first | omega | exact hw _ | exact hx _ _ | assumption) (by omega) (by omega) (by rw [h46_6]; rfl) (by decide) ?_
            refine z_iconst d_Hou_count_158 ?_
            exact z_iret rfl d_Hou_count_159 (by unfold coR; rw [if_neg (by omega), if_neg (by omega), if_neg (by omega), if_neg (by omega), if_neg (by omega), if_neg (by omega), if_neg (by omega), if_neg (by omega)]) (hQ _ _ _ _ _ hR)
          refine z_case (7) (fun h46_7 => ?_) (fun h46_7 => ?_)
          · refine z_tabIn (t := 158) (o := 112) d_Hou_count_46 (by first | omega | exact hw _ | exact hx _ _ | assumption) (by omega) (by omega) (by rw [h46_7]; rfl) (by decide) ?_
            refine z_iconst d_Hou_count_158 ?_
            exact z_iret rfl d_Hou_count_159 (by unfold coR; rw [if_neg (by omega), if_neg (by omega), if_neg (by omega), if_neg (by omega), if_neg (by omega), if_neg (by omega), if_neg (by omega), if_neg (by omega)]) (hQ _ _ _ _ _ hR)
          refine z_case (8) (fun h46_8 => ?_) (fun h46_8 => ?_)
          · refine z_tabIn (t := 158) (o := 112) d_Hou_count_46 (by first | omega | exact hw _ | exact hx _ _ | assumption) (by omega) (by omega) (by rw [h46_8]; rfl) (by decide) ?_
            refine z_iconst d_Hou_count_158 ?_
            exact z_iret rfl d_Hou_count_159 (by unfold coR; rw [if_neg (by omega), if_neg (by omega), if_neg (by omega), if_neg (by omega), if_neg (by omega), if_neg (by omega), if_neg (by omega), if_neg (by omega)]) (hQ _ _ _ _ _ hR)
          refine z_case (9) (fun h46_9 => ?_) (fun h46_9 => ?_)
          · refine z_tabIn (t := 158) (o := 112) d_Hou_count_46 (by first | omega | exact hw _ | exact hx _ _ | assumption) (by omega) (by omega) (by rw [h46_9]; rfl) (by decide) ?_
            refine z_iconst d_Hou_count_158 ?_
            exact z_iret rfl d_Hou_count_159 (by unfold coR; rw [if_neg (by omega), if_neg (by omega), if_neg (by omega), if_neg (by omega), if_neg (by omega), if_neg (by omega), if_neg (by omega), if_neg (by omega)]) (hQ _ _ _ _ _ hR)
          refine z_case (10) (fun h46_10 => ?_) (fun h46_10 => ?_)
          · refine z_tabIn (t := 150) (o := 104) d_Hou_count_46 (by first | omega | exact hw _ | exact hx _ _ | assumption) (by omega) (by omega) (by rw [h46_10]; rfl) (by decide) ?_
            refine j_aload_n d_Hou_count_150 rfl ?_
            refine gf_H_0_0 f_Hou_12 d_Hou_count_151 ?_
            refine gf_H_1_4 f_Hou_181 d_Hou_count_154 ?_
            exact z_iret rfl d_Hou_count_157 (by unfold coR; rw [if_neg (by omega), if_neg (by omega), if_neg (by omega), if_neg (by omega), if_neg (by omega), if_neg (by omega), if_pos (by omega)]; exact hfo) (hQ _ _ _ _ _ hR)
          refine z_tabOut (t := 158) d_Hou_count_46 (by first | omega | exact hw _ | exact hx _ _ | assumption) (by omega) (by decide) ?_
          refine z_iconst d_Hou_count_158 ?_
          exact z_iret rfl d_Hou_count_159 (by unfold coR; rw [if_neg (by omega), if_neg (by omega), if_neg (by omega), if_neg (by omega), if_neg (by omega), if_neg (by omega), if_neg (by omega), if_neg (by omega)]) (hQ _ _ _ _ _ hR)
        · refine j_aload_n d_Hou_count_32 rfl ?_
          refine gf_H_0_0 f_Hou_12 d_Hou_count_33 ?_
          refine gf_H_1_1 f_Hou_115 d_Hou_count_36 ?_
          refine j_iload_n d_Hou_count_39 rfl ?_
          refine z_bipush d_Hou_count_40 (by decide) ?_
          refine z_isub d_Hou_count_42 ?_
          refine al_H_7 d_Hou_count_43 (by omega) (by omega) ?_
          exact z_iret rfl d_Hou_count_44 (by unfold coR; rw [if_neg (by omega), if_neg (by omega), if_neg (by omega), if_neg (by omega), if_neg (by omega), if_neg (by omega), if_neg (by omega), if_pos (by omega)]) (hQ _ _ _ _ _ hR)
    · refine j_aload_n d_Hou_count_11 rfl ?_
      refine gf_H_0_12 f_Hou_87 d_Hou_count_12 ?_
      refine j_iload_n d_Hou_count_15 rfl ?_
      refine z_iconst d_Hou_count_16 ?_
      refine z_isub d_Hou_count_17 ?_
      refine al_H_131 d_Hou_count_18 (by omega) (by omega) ?_
      exact z_iret rfl d_Hou_count_19 (by unfold coR; rw [if_neg (by omega), if_neg (by omega), if_neg (by omega), if_neg (by omega), if_neg (by omega), if_pos (by omega)]) (hQ _ _ _ _ _ hR)
theorem t_Hou_rows {g : Bool} {d : Nat} {Q : List xM → Option Value → Prop} {hdn bl sp su lc fo rn rl rp pz pn fl td br dz ez rdn rlt rbr fz : Int} {rs rm rd ro tm kp by_ tk ps pv pw sk wd dk dl dg rsk wr rf : Int → Int} {qI aI bI cI gI pI yI : Nat → Int} {qF aF bF cF gF eF fF pF yF nF : Nat → Int → Int} {pr be wy : Int → Int → Int} {lx qx ax bx cx : Nat → Option Nat} {ts : List TD} {n deep : Int} (r1 : R32 n) (r2 : R32 deep) (ht : 0 ≤ n ∧ n ≤ 12 ∧ 0 ≤ deep ∧ deep ≤ 12 → ∀ wy nF, Q (W_H hdn bl sp su lc fo rn rl rp pz pn fl td br dz ez rdn rlt rbr fz rs rm rd ro tm kp by_ tk ps pv pw sk wd dk dl dg rsk wr rf qI aI bI cI gI pI yI qF aF bF cF gF eF fF pF yF nF pr be wy lx qx ax bx cx ts) (some (.long (ll (Wd deep (2 * n) 0))))) (hf : ¬ (0 ≤ n ∧ n ≤ 12 ∧ 0 ≤ deep ∧ deep ≤ 12) → Q (W_H hdn bl sp su lc fo rn rl rp pz pn fl td br dz ez rdn rlt rbr fz rs rm rd ro tm kp by_ tk ps pv pw sk wd dk dl dg rsk wr rf qI aI bI cI gI pI yI qF aF bF cF gF eF fF pF yF nF pr be wy lx qx ax bx cx ts) (some (.long (ll (-1))))) : CT g m_Hou_rows (d + 3) [.ref 0, .int (ii n), .int (ii deep)] (W_H hdn bl sp su lc fo rn rl rp pz pn fl td br dz ez rdn rlt rbr fz rs rm rd ro tm kp by_ tk ps pv pw sk wd dk dl dg rsk wr rf qI aI bI cI gI pI yI qF aF bF cF gF eF fF pF yF nF pr be wy lx qx ax bx cx ts) 0 0 Q := by
  refine CT.of (by decide) (Nat.le_of_ble_eq_true rfl) ?_
  show SJ _ _ _ _ [some (.ref 0), some (.int (ii n)), some (.int (ii deep))] [] _ _ _ _
  refine j_iload_n d_Hou_rows_0 rfl ?_
  refine z_if_lt (t := 20) d_Hou_rows_1 (by decide) (by first | omega | exact hw _ | exact hx _ _ | assumption) (fun h1 => ?_) (fun h1 => ?_)
  · refine z_ldc2 (w := -1) d_Hou_rows_20 k_Hou_275 (by decide) ?_
    exact z_lret rfl d_Hou_rows_23 rfl (hf (by omega))
  · refine j_iload_n d_Hou_rows_4 rfl ?_
    refine z_bipush d_Hou_rows_5 (by decide) ?_
    refine z_icmp_gt (t := 20) d_Hou_rows_7 (by decide) (by first | omega | exact hw _ | exact hx _ _ | assumption) (by first | omega | exact hw _ | exact hx _ _ | assumption) (fun h7 => ?_) (fun h7 => ?_)
    · refine z_ldc2 (w := -1) d_Hou_rows_20 k_Hou_275 (by decide) ?_
      exact z_lret rfl d_Hou_rows_23 rfl (hf (by omega))
    · refine j_iload_n d_Hou_rows_10 rfl ?_
      refine z_if_lt (t := 20) d_Hou_rows_11 (by decide) (by first | omega | exact hw _ | exact hx _ _ | assumption) (fun h11 => ?_) (fun h11 => ?_)
      · refine z_ldc2 (w := -1) d_Hou_rows_20 k_Hou_275 (by decide) ?_
        exact z_lret rfl d_Hou_rows_23 rfl (hf (by omega))
      · refine j_iload_n d_Hou_rows_14 rfl ?_
        refine z_bipush d_Hou_rows_15 (by decide) ?_
        refine z_icmp_le (t := 24) d_Hou_rows_17 (by decide) (by first | omega | exact hw _ | exact hx _ _ | assumption) (by first | omega | exact hw _ | exact hx _ _ | assumption) (fun h17 => ?_) (fun h17 => ?_)
        · refine j_aload_n d_Hou_rows_24 rfl ?_
          refine gf_H_0_11 f_Hou_83 d_Hou_rows_25 ?_
          refine j_iload_n d_Hou_rows_28 rfl ?_
          refine j_iload_n d_Hou_rows_29 rfl ?_
          refine v_call2 d_Hou_rows_30 c_Hou_277 rfl ⟨_, rfl, rfl⟩ (Nat.le_of_ble_eq_true rfl) (E_H_NU (fun Q2 kz => t_Num_howMany (by omega) (by omega) (by omega) (by omega) (fun wy2 hwy => kz _ _ _ _ _ _ _ _ _ _ _ _ rfl ?_)) rfl)
          exact z_lret rfl d_Hou_rows_33 rfl (ht (by omega) _ _)
        · refine z_ldc2 (w := -1) d_Hou_rows_20 k_Hou_275 (by decide) ?_
          exact z_lret rfl d_Hou_rows_23 rfl (hf (by omega))
theorem t_Hou_likely {g : Bool} {d : Nat} {Q : List xM → Option Value → Prop} {hdn bl sp su lc fo rn rl rp pz pn fl td br dz ez rdn rlt rbr fz : Int} {rs rm rd ro tm kp by_ tk ps pv pw sk wd dk dl dg rsk wr rf : Int → Int} {qI aI bI cI gI pI yI : Nat → Int} {qF aF bF cF gF eF fF pF yF nF : Nat → Int → Int} {pr be wy : Int → Int → Int} {lx qx ax bx cx : Nat → Option Nat} {ts : List TD} {n : Int} (r1 : R32 n) (hnx : ¬ (0 ≤ n ∧ n ≤ 60) → Q (W_H hdn bl sp su lc fo rn rl rp pz pn fl td br dz ez rdn rlt rbr fz rs rm rd ro tm kp by_ tk ps pv pw sk wd dk dl dg rsk wr rf qI aI bI cI gI pI yI qF aF bF cF gF eF fF pF yF nF pr be wy lx qx ax bx cx ts) (some (.long (ll (-1))))) (hQ : 0 ≤ n ∧ n ≤ 60 → ∀ nF, Q (W_H hdn bl sp su lc fo rn rl rp pz pn fl td br dz ez rdn rlt rbr fz rs rm rd ro tm kp by_ tk ps pv pw sk wd dk dl dg rsk wr rf qI aI bI cI gI pI yI qF aF bF cF gF eF fF pF yF nF pr be wy lx qx ax bx cx ts) (some (.long (ll (lk n.toNat 0)))))  : CT g m_Hou_likely (d + 2) [.ref 0, .int (ii n)] (W_H hdn bl sp su lc fo rn rl rp pz pn fl td br dz ez rdn rlt rbr fz rs rm rd ro tm kp by_ tk ps pv pw sk wd dk dl dg rsk wr rf qI aI bI cI gI pI yI qF aF bF cF gF eF fF pF yF nF pr be wy lx qx ax bx cx ts) 0 0 Q := by
  refine CT.of (by decide) (Nat.le_of_ble_eq_true rfl) ?_
  show SJ _ _ _ _ [some (.ref 0), some (.int (ii n))] [] _ _ _ _
  refine j_iload_n d_Hou_likely_0 rfl ?_
  refine z_if_lt (t := 10) d_Hou_likely_1 (by decide) (by first | omega | exact hw _ | exact hx _ _ | assumption) (fun h1 => ?_) (fun h1 => ?_)
  · refine z_ldc2 (w := -1) d_Hou_likely_10 k_Hou_275 (by decide) ?_
    refine j_goto (t := 24) d_Hou_likely_13 (by decide) ?_
    first
    | exact z_lret rfl d_Hou_likely_24 rfl (hnx (by omega))
    | exact z_lret rfl d_Hou_likely_24 rfl (hQ (by omega) _)
  · refine j_iload_n d_Hou_likely_4 rfl ?_
    refine z_bipush d_Hou_likely_5 (by decide) ?_
    refine z_icmp_le (t := 16) d_Hou_likely_7 (by decide) (by first | omega | exact hw _ | exact hx _ _ | assumption) (by first | omega | exact hw _ | exact hx _ _ | assumption) (fun h7 => ?_) (fun h7 => ?_)
    · refine j_aload_n d_Hou_likely_16 rfl ?_
      refine gf_H_0_11 f_Hou_83 d_Hou_likely_17 ?_
      refine j_iload_n d_Hou_likely_20 rfl ?_
      refine v_call1 d_Hou_likely_21 c_Hou_316 rfl ⟨_, rfl, rfl⟩ (Nat.le_of_ble_eq_true rfl) (E_H_NU (fun Q2 kz => t_Num_likelihood (by omega) (by omega) (fun pa2 pb2 => kz _ _ _ _ _ _ _ _ _ _ _ _ rfl ?_)) rfl)
      first
      | exact z_lret rfl d_Hou_likely_24 rfl (hnx (by omega))
      | exact z_lret rfl d_Hou_likely_24 rfl (hQ (by omega) _)
    · refine z_ldc2 (w := -1) d_Hou_likely_10 k_Hou_275 (by decide) ?_
      refine j_goto (t := 24) d_Hou_likely_13 (by decide) ?_
      first
      | exact z_lret rfl d_Hou_likely_24 rfl (hnx (by omega))
      | exact z_lret rfl d_Hou_likely_24 rfl (hQ (by omega) _)
theorem ns_neg {K : Int → Int} {n k_ j : Int} (n0 : 1 ≤ n ∧ n ≤ 12) (j0 : 0 ≤ j) (j1 : j < 2 * n) (hk : k_ < 0 ∨ Wd (K 22) (2 * n) 0 ≤ k_) : (-1 : Int) = (if (1 ≤ n ∧ n ≤ 12) ∧ 0 ≤ k_ ∧ (0 ≤ j ∧ j < 2 * n) then nsR K n k_ j else -1) := by
  by_cases c : 0 ≤ k_
  · rw [if_pos (by omega)]
    unfold nsR
    rw [if_pos (by omega)]
  · rw [if_neg (by omega)]
theorem t_Hou_nth {g : Bool} {d : Nat} {Q : List xM → Option Value → Prop} {hdn bl sp su lc fo rn rl rp pz pn fl td br dz ez rdn rlt rbr fz : Int} {rs rm rd ro tm kp by_ tk ps pv pw sk wd dk dl dg rsk wr rf : Int → Int} {qI aI bI cI gI pI yI : Nat → Int} {qF aF bF cF gF eF fF pF yF nF : Nat → Int → Int} {pr be wy : Int → Int → Int} {lx qx ax bx cx : Nat → Option Nat} {ts : List TD} {K : Int → Int} (hS : SI K lc fo rn rl rp rs rm rd tm) (hL : LB K lx ts) {n k_ j : Int} (r1 : R32 n) (r2 : R64 k_) (r3 : R32 j) (hQ : ∀ wy nF, Q (W_H hdn bl sp su lc fo rn rl rp pz pn fl td br dz ez rdn rlt rbr fz rs rm rd ro tm kp by_ tk ps pv pw sk wd dk dl dg rsk wr rf qI aI bI cI gI pI yI qF aF bF cF gF eF fF pF yF nF pr be wy lx qx ax bx cx ts) (some (.int (ii (if (1 ≤ n ∧ n ≤ 12) ∧ 0 ≤ k_ ∧ (0 ≤ j ∧ j < 2 * n) then nsR K n k_ j else -1)))))  : CT g m_Hou_nth (d + 4) [.ref 0, .int (ii n), .long (ll (k_)), .int (ii j)] (W_H hdn bl sp su lc fo rn rl rp pz pn fl td br dz ez rdn rlt rbr fz rs rm rd ro tm kp by_ tk ps pv pw sk wd dk dl dg rsk wr rf qI aI bI cI gI pI yI qF aF bF cF gF eF fF pF yF nF pr be wy lx qx ax bx cx ts) 0 0 Q := by
  refine CT.of (by decide) (Nat.le_of_ble_eq_true rfl) ?_
  show SJ _ _ _ _ [some (.ref 0), some (.int (ii n)), some (.long (ll (k_))), none, some (.int (ii j))] [] _ _ _ _
  have hKR := hS.2.1
  obtain ⟨hR, -, htm0, htm1, htm2, hlc, hfo⟩ := id hS
  obtain ⟨hrn, ⟨hn0, hn1⟩, hrs, hrp, hpu⟩ := id hR
  have hdp := hKR.2.2.2.1
  refine j_iload_n d_Hou_nth_0 rfl ?_
  refine z_iconst d_Hou_nth_1 ?_
  refine z_icmp_lt (t := 24) d_Hou_nth_2 (by decide) (by first | omega | exact hw _ | exact hx _ _ | assumption) (by first | omega | exact hw _ | exact hx _ _ | assumption) (fun h2 => ?_) (fun h2 => ?_)
  · refine z_iconst d_Hou_nth_24 ?_
    exact z_iret rfl d_Hou_nth_25 (by rw [if_neg (by omega)]) (hQ _ _)
  · refine j_iload_n d_Hou_nth_5 rfl ?_
    refine z_bipush d_Hou_nth_6 (by decide) ?_
    refine z_icmp_gt (t := 24) d_Hou_nth_8 (by decide) (by first | omega | exact hw _ | exact hx _ _ | assumption) (by first | omega | exact hw _ | exact hx _ _ | assumption) (fun h8 => ?_) (fun h8 => ?_)
    · refine z_iconst d_Hou_nth_24 ?_
      exact z_iret rfl d_Hou_nth_25 (by rw [if_neg (by omega)]) (hQ _ _)
    · refine j_iload d_Hou_nth_11 rfl ?_
      refine z_if_lt (t := 24) d_Hou_nth_13 (by decide) (by first | omega | exact hw _ | exact hx _ _ | assumption) (fun h13 => ?_) (fun h13 => ?_)
      · refine z_iconst d_Hou_nth_24 ?_
        exact z_iret rfl d_Hou_nth_25 (by rw [if_neg (by omega)]) (hQ _ _)
      · refine j_iload d_Hou_nth_16 rfl ?_
        refine z_iconst d_Hou_nth_18 ?_
        refine j_iload_n d_Hou_nth_19 rfl ?_
        refine z_imul d_Hou_nth_20 ?_
        refine z_icmp_lt (t := 26) d_Hou_nth_21 (by decide) (by first | omega | exact hw _ | exact hx _ _ | assumption) (by first | omega | exact hw _ | exact hx _ _ | assumption) (fun h21 => ?_) (fun h21 => ?_)
        · refine j_aload_n d_Hou_nth_26 rfl ?_
          refine gf_H_0_11 f_Hou_83 d_Hou_nth_27 ?_
          refine j_iload_n d_Hou_nth_30 rfl ?_
          refine j_aload_n d_Hou_nth_31 rfl ?_
          refine gf_H_0_0 f_Hou_12 d_Hou_nth_32 ?_
          refine gf_H_1_1 f_Hou_115 d_Hou_nth_35 ?_
          refine z_iconst d_Hou_nth_38 ?_
          refine al_H_7 d_Hou_nth_39 (by omega) (by omega) ?_
          rw [show tm 1 = K 22 from htm1]
          refine j_lload_n d_Hou_nth_40 rfl ?_
          refine j_iload d_Hou_nth_41 rfl ?_
          refine v_call4 d_Hou_nth_43 c_Hou_281 rfl ⟨_, rfl, rfl⟩ (Nat.le_of_ble_eq_true rfl) (E_H_NU (fun Q2 kz => t_Num_signOf (by omega) (by omega) (by omega) (by omega) (by omega) (by omega) r2 (fun hk wy2 => kz _ _ _ _ _ _ _ _ _ _ _ _ rfl ?_) (fun hk1 hk2 op2 wy2 => kz _ _ _ _ _ _ _ _ _ _ _ _ rfl ?_)) rfl)
          · first
            | exact z_iret rfl d_Hou_nth_46 (by rw [if_pos (by omega)]; unfold nsR; rw [if_neg (by omega)]) (hQ _ _)
            | exact z_iret rfl d_Hou_nth_46 (ns_neg (by omega) (by omega) (by omega) hk) (hQ _ _)
          · first
            | exact z_iret rfl d_Hou_nth_46 (by rw [if_pos (by omega)]; unfold nsR; rw [if_neg (by omega)]) (hQ _ _)
            | exact z_iret rfl d_Hou_nth_46 (ns_neg (by omega) (by omega) (by omega) hk) (hQ _ _)
        · refine z_iconst d_Hou_nth_24 ?_
          exact z_iret rfl d_Hou_nth_25 (by rw [if_neg (by omega)]) (hQ _ _)
theorem t_Hou_rank {g : Bool} {d : Nat} {Q : List xM → Option Value → Prop} {hdn bl sp su lc fo rn rl rp pz pn fl td br dz ez rdn rlt rbr fz : Int} {rs rm rd ro tm kp by_ tk ps pv pw sk wd dk dl dg rsk wr rf : Int → Int} {qI aI bI cI gI pI yI : Nat → Int} {qF aF bF cF gF eF fF pF yF nF : Nat → Int → Int} {pr be wy : Int → Int → Int} {lx qx ax bx cx : Nat → Option Nat} {ts : List TD} {K : Int → Int} (hS : SI K lc fo rn rl rp rs rm rd tm) (hL : LB K lx ts) (hQ : ∀ (rl rp : Int) (rm rd ro : Int → Int) wy nF, RI K rn rl rp rs rm rd → Q (W_H hdn bl sp su lc fo rn rl rp pz pn fl td br dz ez rdn rlt rbr fz rs rm rd ro tm kp by_ tk ps pv pw sk wd dk dl dg rsk wr rf qI aI bI cI gI pI yI qF aF bF cF gF eF fF pF yF nF pr be wy lx qx ax bx cx ts) (some (.long (ll (rkR K)))))  : CT g m_Hou_rank (d + 6) [.ref 0] (W_H hdn bl sp su lc fo rn rl rp pz pn fl td br dz ez rdn rlt rbr fz rs rm rd ro tm kp by_ tk ps pv pw sk wd dk dl dg rsk wr rf qI aI bI cI gI pI yI qF aF bF cF gF eF fF pF yF nF pr be wy lx qx ax bx cx ts) 0 0 Q := by
  refine CT.of (by decide) (Nat.le_of_ble_eq_true rfl) ?_
  show SJ _ _ _ _ [some (.ref 0)] [] _ _ _ _
  have hKR := hS.2.1
  obtain ⟨hR, -, htm0, htm1, htm2, hlc, hfo⟩ := id hS
  obtain ⟨hrn, ⟨hn0, hn1⟩, hrs, hrp, hpu⟩ := id hR
  refine j_aload_n d_Hou_rank_0 rfl ?_
  refine gf_H_0_11 f_Hou_83 d_Hou_rank_1 ?_
  refine j_aload_n d_Hou_rank_4 rfl ?_
  refine gf_H_0_0 f_Hou_12 d_Hou_rank_5 ?_
  refine gf_H_1_0 f_Hou_134 d_Hou_rank_8 ?_
  refine j_aload_n d_Hou_rank_11 rfl ?_
  refine gf_H_0_0 f_Hou_12 d_Hou_rank_12 ?_
  refine gf_H_1_1 f_Hou_115 d_Hou_rank_15 ?_
  refine z_iconst d_Hou_rank_18 ?_
  refine al_H_7 d_Hou_rank_19 (by omega) (by omega) ?_
  rw [show tm 1 = K 22 from htm1]
  refine v_call2 d_Hou_rank_20 c_Hou_285 rfl ⟨_, rfl, rfl⟩ (Nat.le_of_ble_eq_true rfl) (E_H_NU (fun Q2 kz => t_Num_numberOf hR hKR (fun rl2 rp2 rm2 rd2 ro2 wy2 hR2 => kz _ _ _ _ _ _ _ _ _ _ _ _ rfl ?_)) rfl)
  exact z_lret rfl d_Hou_rank_23 rfl (hQ _ _ _ _ _ _ _ hR2)
