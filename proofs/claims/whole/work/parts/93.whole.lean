theorem drop_q {cs : List CXC} {n : Nat} {q : CXC} (h : cs[n]? = some q) : cs.drop n = q :: cs.drop (n + 1) := by
  obtain ⟨h1, h2⟩ := List.getElem?_eq_some_iff.mp h
  rw [List.drop_eq_getElem_cons h1, h2]
theorem tms_R {q : CXC} (h : CXh 1 q) : 1 ≤ q.2.2.2.1 ∧ q.2.2.2.1 ≤ 20 := by
  unfold CXh at h
  rw [if_pos rfl] at h
  exact h.2
theorem lp_rw1 {g : Bool} {d : Nat} {Q : List xM → Option Value → Prop} {hdn bl sp su lc fo pz pn fl ez fz : Int} {kp by_ tk ps pv pw rf : Int → Int} {qI aI bI cI gI pI yI : Nat → Int} {qF aF bF cF gF eF fF pF yF nF : Nat → Int → Int} {pr be wy : Int → Int → Int} {lx qx ax bx cx : Nat → Option Nat} {ts : List TD} {cs : List CXC} (hX : TxR 260 (gF 0) (gF 1) (gF 2) (gF 3) (gF 4) (gF 5) (gF 6) 0 0 cs (gI 6)) (hk : ∀ (wd : Int → Int) (wv : Int → Int → Int), wdR wd wv 1 14 20 → ∀ q ∈ cs, CXk (gF 5) (gF 6) wd (gI 6) wv q ∧ CXh 1 q) (hcl : cs.length ≤ 12) (z0_ : 0 ≤ gI 6) (z1_ : gI 6 ≤ 436) (hst : ∀ j, 0 ≤ j → j < gI 6 → 0 ≤ gF 5 j ∧ gF 5 j ≤ 400) {K0 Z0 : Int → Int} (hB : SI K0 (cI 0) (cI 1) (cI 2) (cI 3) (cI 4) (cF 0) (cF 1) (cF 2) (cF 4)) (hBU : UR K0 Z0 fz (fF 0) (fF 1) (fF 2)) (hBL : LB K0 cx ts) (hBX : LXV cx ts) (hL0 : LB K0 lx ts) {q : CXC} {c : Int} (c0 : 0 ≤ c) (c1 : c < 12) (hq : cs[c.toNat]? = some q) (hmt : gF 4 c = q.2.2.2.1) {R : Option OS} (hcont : ∀ T : OS, R = some T → ∀ (rn rl rp td br rbr : Int) (rs rm rd ro tm sk wd dk dl dg rsk wr : Int → Int), SI T.1 lc fo rn rl rp rs rm rd tm → UR T.1 T.2.1 T.2.2.1 dk dl dg → (∀ j, 22 ≤ j → T.1 j = K0 j) → (-1 ≤ T.2.2.2.2 ∧ T.2.2.2.2 ≤ 99) → (0 ≤ T.2.2.2.1 ∧ T.2.2.2.1 ≤ 20 * c + 20) → SJ g m_Run_runWhole (d + 6) 93 [some (.ref 46), some (.ref 26), some (.int (ii c)), none] [] (W_H hdn bl sp su lc fo rn rl rp pz pn fl td br T.2.2.1 ez T.2.2.2.1 T.2.2.2.2 rbr fz rs rm rd ro tm kp by_ tk ps pv pw sk wd dk dl dg rsk wr rf qI aI bI cI gI pI yI qF aF bF cF gF eF fF pF yF nF pr be wy lx qx ax bx cx ts) 0 0 Q) (her : R = none → ∀ (lc fo rdn rlt rn rl rp td br rbr : Int) (rs rm rd ro tm sk wd dk dl dg rsk wr : Int → Int) (lx : Nat → Option Nat), SI K0 lc fo rn rl rp rs rm rd tm → UR K0 Z0 fz dk dl dg → LB K0 lx ts → LXV lx ts → Q (W_H hdn bl sp su lc fo rn rl rp pz pn fl td br fz ez rdn rlt rbr fz rs rm rd ro tm kp by_ tk ps pv pw sk wd dk dl dg rsk wr rf qI aI bI cI gI pI yI qF aF bF cF gF eF fF pF yF nF pr be wy lx qx ax bx cx ts) (some (.int (ii c))))  : ∀ (nn : Nat) (time : Int) (K : Int → Int) (Z : Int → Int) (dz : Int) (rdn : Int) (rlt : Int) (rn : Int) (rl : Int) (rp : Int) (td : Int) (br : Int) (rbr : Int) (rs : Int → Int) (rm : Int → Int) (rd : Int → Int) (ro : Int → Int) (tm : Int → Int) (sk : Int → Int) (wd : Int → Int) (dk : Int → Int) (dl : Int → Int) (dg : Int → Int) (rsk : Int → Int) (wr : Int → Int), (q.2.2.2.1 - time).toNat = nn → 0 ≤ time → time ≤ q.2.2.2.1 → rdn ≤ 20 * c + time → SI K lc fo rn rl rp rs rm rd tm → UR K Z dz dk dl dg → (∀ j, 22 ≤ j → K j = K0 j) → -1 ≤ rlt → rlt ≤ 99 → 0 ≤ rdn → tmO q (q.2.2.2.1 - time).toNat (K, Z, dz, rdn, rlt) = R → SJ g m_Run_runWhole (d + 6) 44 [some (.ref 46), some (.ref 26), some (.int (ii c)), some (.int (ii time))] [] (W_H hdn bl sp su lc fo rn rl rp pz pn fl td br dz ez rdn rlt rbr fz rs rm rd ro tm kp by_ tk ps pv pw sk wd dk dl dg rsk wr rf qI aI bI cI gI pI yI qF aF bF cF gF eF fF pF yF nF pr be wy lx qx ax bx cx ts) 0 0 Q := by
  intro nn
  induction nn using Nat.strongRecOn with
  | ind nn ih =>
  intro time K Z dz rdn rlt rn rl rp td br rbr rs rm rd ro tm sk wd dk dl dg rsk wr hn t0 t1 e1 hS hU hhi l0 l1 e0 hR
  have hQk := fun (wd : Int → Int) (wv : Int → Int → Int) (h : wdR wd wv 1 14 20) => (hk wd wv h q (List.mem_of_getElem? hq)).1
  have hQh : CXh 1 q := (hk (fun _ => 0) (fun _ _ => 0) ⟨fun _ _ _ _ => rfl, fun _ _ _ _ => ⟨rfl, rfl⟩, fun _ _ _ _ => by show rgo 0; omega⟩ q (List.mem_of_getElem? hq)).2
  have htR := tms_R hQh
  have hL := hL0.same (K' := K) (fun j hj _ => hhi j hj)
  have hKK := hL.kok hS.2.1
  refine j_iload_n d_Run_runWhole_44 rfl ?_
  refine j_aload_n d_Run_runWhole_45 rfl ?_
  refine gf_H_26_4 f_Run_67 d_Run_runWhole_46 ?_
  refine j_iload_n d_Run_runWhole_49 rfl ?_
  refine al_H_31 d_Run_runWhole_50 (by omega) (by omega) ?_
  refine z_icmp_ge (t := 93) d_Run_runWhole_51 (by decide) (by first | omega | exact hw _ | exact hx _ _ | assumption) (by first | omega | exact hw _ | exact hx _ _ | assumption) (fun h51 => ?_) (fun h51 => ?_)
  · have et : time = q.2.2.2.1 := by omega
    rw [et, show (q.2.2.2.1 - q.2.2.2.1).toNat = 0 by omega] at hR
    refine SJ.mask [true, true, true, false] ?_
    exact hcont (K, Z, dz, rdn, rlt) hR.symm _ _ _ _ _ _ _ _ _ _ _ _ _ _ _ _ _ _ hS hU hhi ⟨l0, l1⟩ ⟨e0, by show rdn ≤ _; omega⟩
  · refine j_aload_n d_Run_runWhole_54 rfl ?_
    refine j_aload_n d_Run_runWhole_55 rfl ?_
    refine j_iload_n d_Run_runWhole_56 rfl ?_
    refine v_call2 d_Run_runWhole_57 c_Run_70 rfl ⟨_, rfl, rfl⟩ (Nat.le_of_ble_eq_true rfl) (t_Run_runOnce hS hL hU c0 c1 e0 (by omega) l0 l1 z0_ z1_ hst hX hq hQk hQh (fun T hT rn2 rl2 rp2 td2 br2 rbr2 rs2 rm2 rd2 ro2 tm2 sk2 wd2 dk2 dl2 dg2 rsk2 wr2 hS2 hU2 hh2 => ?_) (fun hN dz2 rdn2 rlt2 rn2 rl2 rp2 td2 br2 rbr2 rs2 rm2 rd2 ro2 tm2 sk2 wd2 dk2 dl2 dg2 rsk2 wr2 => ?_))
    · refine z_if_ne (t := 87) d_Run_runWhole_60 (by decide) (by first | omega | exact hw _ | exact hx _ _ | assumption) (fun _ => ?_) (fun h => absurd h (by decide))
      refine z_iinc d_Run_runWhole_87 rfl (by decide) ?_
      show SJ _ _ _ _ [_, _, _, _] _ _ _ _ _
      refine j_goto (t := 44) d_Run_runWhole_90 (by decide) ?_
      have hon := onO_lt hKK hT ⟨l0, l1⟩
      rw [show (q.2.2.2.1 - time).toNat = (q.2.2.2.1 - (time + 1)).toNat + 1 by omega, tmO_y hT] at hR
      exact ih _ (by omega) (time + 1) T.1 T.2.1 T.2.2.1 T.2.2.2.1 T.2.2.2.2 _ _ _ _ _ _ _ _ _ _ _ _ _ _ _ _ _ _ rfl (by omega) (by omega) (by dsimp only at hon; omega) hS2 hU2 (fun j hj => (hh2 j hj).trans (hhi j hj)) hon.2.1 hon.2.2 (by dsimp only at hon; omega) hR
    · refine z_if_ne (t := 87) d_Run_runWhole_60 (by decide) (by first | omega | exact hw _ | exact hx _ _ | assumption) (fun h => absurd h (by decide)) (fun _ => ?_)
      refine j_aload_n d_Run_runWhole_63 rfl ?_
      refine gf_H_46_1 f_Run_36 d_Run_runWhole_64 ?_
      refine j_aload_n d_Run_runWhole_67 rfl ?_
      refine gf_H_46_3 f_Run_18 d_Run_runWhole_68 ?_
      refine v_call1 d_Run_runWhole_71 c_Run_55 rfl ⟨_, rfl, rfl⟩ (Nat.le_of_ble_eq_true rfl) (E_H_SCSB (fun Q2 kz => t_Sta_copyFrom hBX (fun lz hlz => kz _ _ _ _ _ _ _ _ _ _ _ _ rfl ?_)) rfl)
      refine j_aload_n d_Run_runWhole_74 rfl ?_
      refine gf_H_46_2 f_Run_39 d_Run_runWhole_75 ?_
      refine j_aload_n d_Run_runWhole_78 rfl ?_
      refine gf_H_46_4 f_Run_52 d_Run_runWhole_79 ?_
      refine v_call1 d_Run_runWhole_82 c_Run_59 rfl ⟨_, rfl, rfl⟩ (Nat.le_of_ble_eq_true rfl) (E_H_DCS (fun Q2 kz => t_Dee_copyFrom (kz _ _ _ _ _ rfl ?_)) rfl)
      refine j_iload_n d_Run_runWhole_85 rfl ?_
      rw [show (q.2.2.2.1 - time).toNat = (q.2.2.2.1 - (time + 1)).toNat + 1 by omega, tmO_e hN] at hR
      exact z_iret rfl d_Run_runWhole_86 rfl (her hR.symm _ _ _ _ _ _ _ _ _ _ _ _ _ _ _ _ _ _ _ _ _ _ _ hB.copy hBU.copy (hBL.texts hB.2.1.2.2.2.2.2.1.2 hlz (fun j t h => h)) (hBX.eq hlz))
theorem lp_rw0 {g : Bool} {d : Nat} {Q : List xM → Option Value → Prop} {hdn bl sp su lc fo pz pn fl ez fz : Int} {kp by_ tk ps pv pw rf : Int → Int} {qI aI bI cI gI pI yI : Nat → Int} {qF aF bF cF gF eF fF pF yF nF : Nat → Int → Int} {pr be wy : Int → Int → Int} {lx qx ax bx cx : Nat → Option Nat} {ts : List TD} {cs : List CXC} (hX : TxR 260 (gF 0) (gF 1) (gF 2) (gF 3) (gF 4) (gF 5) (gF 6) 0 0 cs (gI 6)) (hk : ∀ (wd : Int → Int) (wv : Int → Int → Int), wdR wd wv 1 14 20 → ∀ q ∈ cs, CXk (gF 5) (gF 6) wd (gI 6) wv q ∧ CXh 1 q) (hcl : cs.length ≤ 12) (z0_ : 0 ≤ gI 6) (z1_ : gI 6 ≤ 436) (hst : ∀ j, 0 ≤ j → j < gI 6 → 0 ≤ gF 5 j ∧ gF 5 j ≤ 400) {K0 Z0 : Int → Int} (hB : SI K0 (cI 0) (cI 1) (cI 2) (cI 3) (cI 4) (cF 0) (cF 1) (cF 2) (cF 4)) (hBU : UR K0 Z0 fz (fF 0) (fF 1) (fF 2)) (hBL : LB K0 cx ts) (hBX : LXV cx ts) (hL0 : LB K0 lx ts) (h5 : gI 5 = (cs.length : Int)) {R0 : Sum OS Int} (hok : ∀ T : OS, R0 = .inl T → ∀ (rn rl rp td br rbr : Int) (rs rm rd ro tm sk wd dk dl dg rsk wr : Int → Int), SI T.1 lc fo rn rl rp rs rm rd tm → UR T.1 T.2.1 T.2.2.1 dk dl dg → (∀ j, 22 ≤ j → T.1 j = K0 j) → Q (W_H hdn bl sp su lc fo rn rl rp pz pn fl td br T.2.2.1 ez T.2.2.2.1 T.2.2.2.2 rbr fz rs rm rd ro tm kp by_ tk ps pv pw sk wd dk dl dg rsk wr rf qI aI bI cI gI pI yI qF aF bF cF gF eF fF pF yF nF pr be wy lx qx ax bx cx ts) (some (.int (ii (-1))))) (her : ∀ m, R0 = .inr m → (0 ≤ m ∧ m < 12) → ∀ (lc fo rdn rlt rn rl rp td br rbr : Int) (rs rm rd ro tm sk wd dk dl dg rsk wr : Int → Int) (lx : Nat → Option Nat), SI K0 lc fo rn rl rp rs rm rd tm → UR K0 Z0 fz dk dl dg → LB K0 lx ts → LXV lx ts → Q (W_H hdn bl sp su lc fo rn rl rp pz pn fl td br fz ez rdn rlt rbr fz rs rm rd ro tm kp by_ tk ps pv pw sk wd dk dl dg rsk wr rf qI aI bI cI gI pI yI qF aF bF cF gF eF fF pF yF nF pr be wy lx qx ax bx cx ts) (some (.int (ii m))))  : ∀ (nn : Nat) (c : Int) (K : Int → Int) (Z : Int → Int) (dz : Int) (rdn : Int) (rlt : Int) (rn : Int) (rl : Int) (rp : Int) (td : Int) (br : Int) (rbr : Int) (rs : Int → Int) (rm : Int → Int) (rd : Int → Int) (ro : Int → Int) (tm : Int → Int) (sk : Int → Int) (wd : Int → Int) (dk : Int → Int) (dl : Int → Int) (dg : Int → Int) (rsk : Int → Int) (wr : Int → Int), ((cs.length : Int) - c).toNat = nn → 0 ≤ c → c ≤ (cs.length : Int) → rdn ≤ 20 * c → SI K lc fo rn rl rp rs rm rd tm → UR K Z dz dk dl dg → (∀ j, 22 ≤ j → K j = K0 j) → -1 ≤ rlt → rlt ≤ 99 → 0 ≤ rdn → ruO (cs.drop c.toNat) c (K, Z, dz, rdn, rlt) = R0 → SJ g m_Run_runWhole (d + 6) 34 [some (.ref 46), some (.ref 26), some (.int (ii c)), none] [] (W_H hdn bl sp su lc fo rn rl rp pz pn fl td br dz ez rdn rlt rbr fz rs rm rd ro tm kp by_ tk ps pv pw sk wd dk dl dg rsk wr rf qI aI bI cI gI pI yI qF aF bF cF gF eF fF pF yF nF pr be wy lx qx ax bx cx ts) 0 0 Q := by
  intro nn
  induction nn using Nat.strongRecOn with
  | ind nn ih =>
  intro c K Z dz rdn rlt rn rl rp td br rbr rs rm rd ro tm sk wd dk dl dg rsk wr hn c0 c1 e1 hS hU hhi l0 l1 e0 hR
  refine j_iload_n d_Run_runWhole_34 rfl ?_
  refine j_aload_n d_Run_runWhole_35 rfl ?_
  refine gf_H_26_7 f_Run_62 d_Run_runWhole_36 ?_
  refine z_icmp_ge (t := 99) d_Run_runWhole_39 (by decide) (by first | omega | exact hw _ | exact hx _ _ | assumption) (by first | omega | exact hw _ | exact hx _ _ | assumption) (fun h39 => ?_) (fun h39 => ?_)
  · refine z_iconst d_Run_runWhole_99 ?_
    have ec : c = (cs.length : Int) := by omega
    rw [List.drop_of_length_le (by omega)] at hR
    exact z_iret rfl d_Run_runWhole_100 rfl (hok (K, Z, dz, rdn, rlt) hR.symm _ _ _ _ _ _ _ _ _ _ _ _ _ _ _ _ _ _ hS hU hhi)
  · refine z_iconst d_Run_runWhole_42 ?_
    refine j_istore_n d_Run_runWhole_43 (by decide) ?_
    show SJ _ _ _ _ [_, _, _, _] _ _ _ _ _
    obtain ⟨q, hq⟩ : ∃ q, cs[c.toNat]? = some q := ⟨_, List.getElem?_eq_getElem (by omega)⟩
    have hmt : gF 4 c = q.2.2.2.1 := by
      obtain ⟨z, z0, ⟨k1, k2, k3, k4, k5, k6⟩, k7⟩ := (TxR_at cs 0 0 _ hX).2 c.toNat q hq
      rw [show (0 : Int) + ((c.toNat : Nat) : Int) = c by omega] at k5
      exact k5
    rw [drop_q hq] at hR
    refine lp_rw1 hX hk hcl z0_ z1_ hst hB hBU hBL hBX hL0 c0 (by omega) hq hmt (R := tmO q q.2.2.2.1.toNat (K, Z, dz, rdn, rlt)) (fun T hT rn2 rl2 rp2 td2 br2 rbr2 rs2 rm2 rd2 ro2 tm2 sk2 wd2 dk2 dl2 dg2 rsk2 wr2 hS2 hU2 hh2 hl2 hd2 => ?_) (fun hN => ?_) _ 0 K Z dz rdn rlt rn rl rp td br rbr rs rm rd ro tm sk wd dk dl dg rsk wr rfl (by omega) ?_ (by omega) hS hU hhi l0 l1 e0 (by rw [show q.2.2.2.1 - 0 = q.2.2.2.1 by omega])
    · rw [ruO_y hT] at hR
      refine z_iinc d_Run_runWhole_93 rfl (by decide) ?_
      show SJ _ _ _ _ [_, _, _, _] _ _ _ _ _
      refine j_goto (t := 34) d_Run_runWhole_96 (by decide) ?_
      refine ih _ (by omega) (c + 1) T.1 T.2.1 T.2.2.1 T.2.2.2.1 T.2.2.2.2 rn2 rl2 rp2 td2 br2 rbr2 rs2 rm2 rd2 ro2 tm2 sk2 wd2 dk2 dl2 dg2 rsk2 wr2 rfl (by omega) (by omega) (by omega) hS2 hU2 hh2 hl2.1 hl2.2 hd2.1 ?_
      rw [show (c + 1).toNat = c.toNat + 1 by omega]
      exact hR
    · rw [ruO_e hN] at hR
      exact her c hR.symm (by omega)
    · have hQh := (hk (fun _ => 0) (fun _ _ => 0) ⟨fun _ _ _ _ => rfl, fun _ _ _ _ => ⟨rfl, rfl⟩, fun _ _ _ _ => by show rgo 0; omega⟩ q (List.mem_of_getElem? hq)).2
      have := tms_R hQh
      omega
theorem t_Run_runWhole {g : Bool} {d : Nat} {Q : List xM → Option Value → Prop} {hdn bl sp su lc fo rn rl rp pz pn fl td br dz ez rdn rlt rbr fz : Int} {rs rm rd ro tm kp by_ tk ps pv pw sk wd dk dl dg rsk wr rf : Int → Int} {qI aI bI cI gI pI yI : Nat → Int} {qF aF bF cF gF eF fF pF yF nF : Nat → Int → Int} {pr be wy : Int → Int → Int} {lx qx ax bx cx : Nat → Option Nat} {ts : List TD} {K Z : Int → Int} (hS : SI K lc fo rn rl rp rs rm rd tm) (hL : LB K lx ts) (hU : UR K Z dz dk dl dg) (hXV : LXV lx ts) {cs : List CXC} (hX : TxR 260 (gF 0) (gF 1) (gF 2) (gF 3) (gF 4) (gF 5) (gF 6) 0 0 cs (gI 6)) (hk : ∀ (wd : Int → Int) (wv : Int → Int → Int), wdR wd wv 1 14 20 → ∀ q ∈ cs, CXk (gF 5) (gF 6) wd (gI 6) wv q ∧ CXh 1 q) (hcl : cs.length ≤ 12) (z0_ : 0 ≤ gI 6) (z1_ : gI 6 ≤ 436) (hst : ∀ j, 0 ≤ j → j < gI 6 → 0 ≤ gF 5 j ∧ gF 5 j ≤ 400) (h5 : gI 5 = (cs.length : Int)) (hok : ∀ T : OS, ruO cs 0 (K, Z, dz, 0, -1) = .inl T → ∀ (rn rl rp td br rbr fz : Int) (rs rm rd ro tm sk wd dk dl dg rsk wr : Int → Int) (cI : Nat → Int) (cF fF : Nat → Int → Int) (cx : Nat → Option Nat), SI T.1 lc fo rn rl rp rs rm rd tm → UR T.1 T.2.1 T.2.2.1 dk dl dg → (∀ j, 22 ≤ j → T.1 j = K j) → LXV cx ts → Q (W_H hdn bl sp su lc fo rn rl rp pz pn fl td br T.2.2.1 ez T.2.2.2.1 T.2.2.2.2 rbr fz rs rm rd ro tm kp by_ tk ps pv pw sk wd dk dl dg rsk wr rf qI aI bI cI gI pI yI qF aF bF cF gF eF fF pF yF nF pr be wy lx qx ax bx cx ts) (some (.int (ii (-1))))) (her : ∀ m, ruO cs 0 (K, Z, dz, 0, -1) = .inr m → (0 ≤ m ∧ m < 12) → ∀ (lc fo rdn rlt rn rl rp td br rbr fz : Int) (rs rm rd ro tm sk wd dk dl dg rsk wr : Int → Int) (cI : Nat → Int) (cF fF : Nat → Int → Int) (lx cx : Nat → Option Nat), SI K lc fo rn rl rp rs rm rd tm → UR K Z dz dk dl dg → LB K lx ts → LXV lx ts → LXV cx ts → Q (W_H hdn bl sp su lc fo rn rl rp pz pn fl td br dz ez rdn rlt rbr fz rs rm rd ro tm kp by_ tk ps pv pw sk wd dk dl dg rsk wr rf qI aI bI cI gI pI yI qF aF bF cF gF eF fF pF yF nF pr be wy lx qx ax bx cx ts) (some (.int (ii m))))  : CT g m_Run_runWhole (d + 6) [.ref 46, .ref 26] (W_H hdn bl sp su lc fo rn rl rp pz pn fl td br dz ez rdn rlt rbr fz rs rm rd ro tm kp by_ tk ps pv pw sk wd dk dl dg rsk wr rf qI aI bI cI gI pI yI qF aF bF cF gF eF fF pF yF nF pr be wy lx qx ax bx cx ts) 0 0 Q := by
  refine CT.of (by decide) (Nat.le_of_ble_eq_true rfl) ?_
  show SJ _ _ _ _ [some (.ref 46), some (.ref 26), none, none] [] _ _ _ _
  refine j_aload_n d_Run_runWhole_0 rfl ?_
  refine gf_H_46_3 f_Run_18 d_Run_runWhole_1 ?_
  refine j_aload_n d_Run_runWhole_4 rfl ?_
  refine gf_H_46_1 f_Run_36 d_Run_runWhole_5 ?_
  refine v_call1 d_Run_runWhole_8 c_Run_55 rfl ⟨_, rfl, rfl⟩ (Nat.le_of_ble_eq_true rfl) (E_H_SCBS (fun Q2 kz => t_Sta_copyFrom hXV (fun lz hlz => kz _ _ _ _ _ _ _ _ _ _ _ _ rfl ?_)) rfl)
  refine j_aload_n d_Run_runWhole_11 rfl ?_
  refine gf_H_46_4 f_Run_52 d_Run_runWhole_12 ?_
  refine j_aload_n d_Run_runWhole_15 rfl ?_
  refine gf_H_46_2 f_Run_39 d_Run_runWhole_16 ?_
  refine v_call1 d_Run_runWhole_19 c_Run_59 rfl ⟨_, rfl, rfl⟩ (Nat.le_of_ble_eq_true rfl) (E_H_DCB (fun Q2 kz => t_Dee_copyFrom (kz _ _ _ _ _ rfl ?_)) rfl)
  refine j_aload_n d_Run_runWhole_22 rfl ?_
  refine z_iconst d_Run_runWhole_23 ?_
  refine pf_H_46_0 f_Run_9 d_Run_runWhole_24 ?_
  refine j_aload_n d_Run_runWhole_27 rfl ?_
  refine z_iconst d_Run_runWhole_28 ?_
  refine pf_H_46_7 f_Run_33 d_Run_runWhole_29 ?_
  refine z_iconst d_Run_runWhole_32 ?_
  refine j_istore_n d_Run_runWhole_33 (by decide) ?_
  show SJ _ _ _ _ [_, _, _, _] _ _ _ _ _
  have hLz := hL.texts (lx' := lz) (ts' := ts) hS.2.1.2.2.2.2.2.1.2 hlz (fun j t h => h)
  refine lp_rw0 hX hk hcl z0_ z1_ hst (K0 := K) (Z0 := Z) hS.copy hU.copy hLz (hXV.eq hlz) hL h5 (R0 := ruO cs 0 (K, Z, dz, 0, -1)) (fun T hT rn rl rp td br rbr rs rm rd ro tm sk wd dk dl dg rsk wr h1 h2 h3 => ?_) (fun m hm2 hm3 lc fo rdn rlt rn rl rp td br rbr rs rm rd ro tm sk wd dk dl dg rsk wr lx h1 h2 h3 h4 => ?_) _ 0 K Z _ _ _ _ _ _ _ _ _ _ _ _ _ _ _ _ _ _ _ _ _ rfl (by omega) (by omega) (by omega) hS hU (fun j hj => rfl) (by omega) (by omega) (by omega) rfl
  · exact hok T hT _ _ _ _ _ _ _ _ _ _ _ _ _ _ _ _ _ _ _ _ _ _ _ h1 h2 h3 (hXV.eq hlz)
  · exact her m hm2 hm3 _ _ _ _ _ _ _ _ _ _ _ _ _ _ _ _ _ _ _ _ _ _ _ _ _ _ _ _ h1 h2 h3 h4 (hXV.eq hlz)
