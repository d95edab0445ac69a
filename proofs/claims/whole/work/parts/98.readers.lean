theorem t_Hou_nextDraw {g : Bool} {d : Nat} {Q : List xM → Option Value → Prop} {mem : List xM} {s : Int} (s0 : 0 ≤ s) (s1 : s ≤ 1000003) (hQ : Q mem (some (.int (ii (dw s))))) : CT g m_Hou_nextDraw d [.int (ii s)] mem 0 0 Q := by
  refine CT.of (by decide) (Nat.le_of_ble_eq_true rfl) ?_
  show SJ _ _ _ _ [some (.int (ii s))] [] _ _ _ _
  refine j_iload_n d_Hou_nextDraw_0 rfl ?_
  refine z_sipush d_Hou_nextDraw_1 (by decide) ?_
  refine z_imul d_Hou_nextDraw_4 ?_
  refine z_sipush d_Hou_nextDraw_5 (by decide) ?_
  refine z_iadd d_Hou_nextDraw_8 ?_
  refine z_ldcw (w := 1000003) d_Hou_nextDraw_9 k_Hou_341 (by decide) ?_
  refine z_irem d_Hou_nextDraw_12 (by omega) (by decide) (by decide) ?_
  exact z_iret rfl d_Hou_nextDraw_13 (by unfold dw; congr 1; omega) hQ
theorem LB.of22 {K K' : Int → Int} {lx : Nat → Option Nat} {ts : List TD} (h : LB K lx ts) (e : ∀ j, 22 ≤ j → K' j = K j) : LB K' lx ts := h.same (fun j hj _ => e j hj)
theorem rdA_put {K : Int → Int} {s : Int} (h : (dw s).tmod 3 = 0) : (rdA K s).2 = dw (dw (dw s)) ∧ (rdA K s).1 = (if K 0 < 20 ∧ ¬ tl K 4 ((dw (dw s)).tmod 6) ((dw (dw (dw s))).tmod (K 0 + 1)) 0 = 1 then putK K ((dw (dw s)).tmod 6) ((dw (dw (dw s))).tmod (K 0 + 1)) else K) := by
  rw [rdA_def, if_pos h]
  exact ⟨rfl, rfl⟩
theorem rdA_cut {K : Int → Int} {s : Int} (h : (dw s).tmod 3 = 1) (h2 : 0 < K 0) : (rdA K s).2 = dw (dw s) ∧ (rdA K s).1 = cutK K ((dw (dw s)).tmod (K 0)) := by
  rw [rdA_def, if_neg (by omega), if_pos ⟨h, h2⟩]
  exact ⟨rfl, rfl⟩
theorem rdA_no {K : Int → Int} {s : Int} (h : ¬ (dw s).tmod 3 = 0) (h2 : ¬ ((dw s).tmod 3 = 1 ∧ 0 < K 0)) : (rdA K s).2 = dw s ∧ (rdA K s).1 = K := by
  rw [rdA_def, if_neg h, if_neg h2]
  exact ⟨rfl, rfl⟩
theorem puR_no {K : Int → Int} {s p : Int} (hk : KOK K) (s0 : 0 ≤ s ∧ s ≤ 11) (p0 : 0 ≤ p ∧ p ≤ K 0) : (puR K s p < 0 ↔ ¬ (K 0 < 20 ∧ ¬ tl K 4 s p 0 = 1)) := by
  have hn := hk.1.1
  have ht := hk.hasR (head := 1) (s := s) (p := p) (wo := 1) s0.1 s0.2 p0.1 (by omega) (by omega)
  unfold puR
  rw [if_neg (fun z => z s0), if_neg (fun z => z p0)]
  by_cases c : tl K 4 s p 0 = 1
  · rw [if_pos c]
    exact ⟨fun _ z => z.2 c, fun _ => by decide⟩
  · rw [if_neg c]
    by_cases c2 : K 0 = 20
    · rw [if_pos c2]
      exact ⟨fun _ z => by omega, fun _ => by decide⟩
    · rw [if_neg c2]
      exact ⟨fun z => by omega, fun z => absurd ⟨by omega, c⟩ z⟩
theorem t_Hou_readPage {g : Bool} {d : Nat} {Q : List xM → Option Value → Prop} {hdn bl sp su lc fo rn rl rp pz pn fl td br dz ez rdn rlt rbr fz : Int} {rs rm rd ro tm kp by_ tk ps pv pw sk wd dk dl dg rsk wr rf : Int → Int} {qI aI bI cI gI pI yI : Nat → Int} {qF aF bF cF gF eF fF pF yF nF : Nat → Int → Int} {pr be wy : Int → Int → Int} {lx qx ax bx cx : Nat → Option Nat} {ts : List TD} {K : Int → Int} (hS : SI K (qI 0) (qI 1) (qI 2) (qI 3) (qI 4) (qF 0) (qF 1) (qF 2) (qF 4)) (hL : LB K qx ts) (z0_ : 0 ≤ ez ∧ ez ≤ 16) {s : Int} (s0 : 0 ≤ s) (s1 : s ≤ 1000003) (hQ : ∀ (td br ez : Int) (sk wd : Int → Int) (qI : Nat → Int) (qF eF : Nat → Int → Int), SI (rdA K s).1 (qI 0) (qI 1) (qI 2) (qI 3) (qI 4) (qF 0) (qF 1) (qF 2) (qF 4) → (0 ≤ ez ∧ ez ≤ 16) → Q (W_H hdn bl sp su lc fo rn rl rp pz pn fl td br dz ez rdn rlt rbr fz rs rm rd ro tm kp by_ tk ps pv pw sk wd dk dl dg rsk wr rf qI aI bI cI gI pI yI qF aF bF cF gF eF fF pF yF nF pr be wy lx qx ax bx cx ts) (some (.int (ii (rdA K s).2))))  : CT g m_Hou_readPage (d + 5) [.ref 0, .int (ii s)] (W_H hdn bl sp su lc fo rn rl rp pz pn fl td br dz ez rdn rlt rbr fz rs rm rd ro tm kp by_ tk ps pv pw sk wd dk dl dg rsk wr rf qI aI bI cI gI pI yI qF aF bF cF gF eF fF pF yF nF pr be wy lx qx ax bx cx ts) 0 0 Q := by
  refine CT.of (by decide) (Nat.le_of_ble_eq_true rfl) ?_
  show SJ _ _ _ _ [some (.ref 0), some (.int (ii s)), none, none, none, none] [] _ _ _ _
  have hKR := hS.2.1
  have hKK := hL.kok hKR
  have hLX := hL.lxE hKR
  have hn20 := hKR.1
  have hq2 : qI 2 = K 0 := hS.1.1
  have hd1 := dw_R (l := s) s0
  have hd2 := dw_R (l := dw s) hd1.1
  have hd3 := dw_R (l := dw (dw s)) hd2.1
  have ht3 := tm_R (l := dw s) (k := 3) hd1.1 (by decide)
  have ht6 := tm_R (l := dw (dw s)) (k := 6) hd2.1 (by decide)
  have htn := tm_R (l := dw (dw (dw s))) (k := K 0 + 1) hd3.1 (by omega)
  refine j_iload_n d_Hou_readPage_0 rfl ?_
  refine s_call1 d_Hou_readPage_1 c_Hou_338 (Nat.le_of_ble_eq_true rfl) (t_Hou_nextDraw s0 s1 ?_)
  refine j_istore_n d_Hou_readPage_4 (by decide) ?_
  show SJ _ _ _ _ [_, _, _, _, _, _] _ _ _ _ _
  refine j_aload_n d_Hou_readPage_5 rfl ?_
  refine gf_H_0_1 f_Hou_16 d_Hou_readPage_6 ?_
  refine gf_H_9_0 f_Hou_134 d_Hou_readPage_9 ?_
  refine gf_H_10_1 f_Hou_138 d_Hou_readPage_12 ?_
  refine j_istore_n d_Hou_readPage_15 (by decide) ?_
  show SJ _ _ _ _ [_, _, _, _, _, _] _ _ _ _ _
  refine j_iload_n d_Hou_readPage_16 rfl ?_
  refine z_iconst d_Hou_readPage_17 ?_
  refine z_irem d_Hou_readPage_18 (by omega) (by decide) (by decide) ?_
  refine j_istore d_Hou_readPage_19 (by decide) ?_
  show SJ _ _ _ _ [_, _, _, _, _, _] _ _ _ _ _
  refine j_iload d_Hou_readPage_21 rfl ?_
  refine z_if_ne (t := 60) d_Hou_readPage_23 (by decide) (by first | omega | exact hw _ | exact hx _ _ | assumption) (fun h23 => ?_) (fun h23 => ?_)
  · refine j_iload d_Hou_readPage_60 rfl ?_
    refine z_iconst d_Hou_readPage_62 ?_
    refine z_icmp_ne (t := 86) d_Hou_readPage_63 (by decide) (by first | omega | exact hw _ | exact hx _ _ | assumption) (by first | omega | exact hw _ | exact hx _ _ | assumption) (fun h63 => ?_) (fun h63 => ?_)
    · refine j_iload_n d_Hou_readPage_86 rfl ?_
      first
      | exact z_iret rfl d_Hou_readPage_87 hra.1.symm (hQ _ _ _ _ _ _ _ _ (by rw [hra.2, if_neg (hpn.mp hno1)]; exact hS) z0_)
      | exact z_iret rfl d_Hou_readPage_87 hra.1.symm (hQ _ _ _ _ _ _ _ _ (by rw [hra.2, if_pos (by by_cases z : K 0 < 20 ∧ ¬ tl K 4 ((dw (dw s)).tmod 6) ((dw (dw (dw s))).tmod (K 0 + 1)) 0 = 1; exact z; exact absurd (hpn.mpr z) (by omega))]; exact hS.put hy2.1 hy2.2 hy3.1 hy3.2 hy4) hsh)
      | exact z_iret rfl d_Hou_readPage_87 hra.1.symm (hQ _ _ _ _ _ _ _ _ (by rw [hra.2]; exact hS.cut hy2.1 hy2.2) hsh)
      | (exfalso; have hcu := cuR_Q hKK ((dw (dw s)).tmod (K 0)); unfold cuR at hno1; rw [if_neg (by omega)] at hno1; have hs5 := hKR.2.1 ((dw (dw s)).tmod (K 0)) (by omega) (by omega); have htl := hL.tlR hKR (w := 2) (K (1 + (dw (dw s)).tmod (K 0))) ((dw (dw s)).tmod (K 0)) (by omega) (by omega) (by omega) (by omega); omega)
      | (have hra := rdA_no (K := K) (by omega : ¬ (dw s).tmod 3 = 0) (by omega)
         exact z_iret rfl d_Hou_readPage_87 hra.1.symm (hQ _ _ _ _ _ _ _ _ (by rw [hra.2]; exact hS) z0_))
    · refine j_iload_n d_Hou_readPage_66 rfl ?_
      refine z_if_le (t := 86) d_Hou_readPage_67 (by decide) (by first | omega | exact hw _ | exact hx _ _ | assumption) (fun h67 => ?_) (fun h67 => ?_)
      · refine j_iload_n d_Hou_readPage_86 rfl ?_
        first
        | exact z_iret rfl d_Hou_readPage_87 hra.1.symm (hQ _ _ _ _ _ _ _ _ (by rw [hra.2, if_neg (hpn.mp hno1)]; exact hS) z0_)
        | exact z_iret rfl d_Hou_readPage_87 hra.1.symm (hQ _ _ _ _ _ _ _ _ (by rw [hra.2, if_pos (by by_cases z : K 0 < 20 ∧ ¬ tl K 4 ((dw (dw s)).tmod 6) ((dw (dw (dw s))).tmod (K 0 + 1)) 0 = 1; exact z; exact absurd (hpn.mpr z) (by omega))]; exact hS.put hy2.1 hy2.2 hy3.1 hy3.2 hy4) hsh)
        | exact z_iret rfl d_Hou_readPage_87 hra.1.symm (hQ _ _ _ _ _ _ _ _ (by rw [hra.2]; exact hS.cut hy2.1 hy2.2) hsh)
        | (exfalso; have hcu := cuR_Q hKK ((dw (dw s)).tmod (K 0)); unfold cuR at hno1; rw [if_neg (by omega)] at hno1; have hs5 := hKR.2.1 ((dw (dw s)).tmod (K 0)) (by omega) (by omega); have htl := hL.tlR hKR (w := 2) (K (1 + (dw (dw s)).tmod (K 0))) ((dw (dw s)).tmod (K 0)) (by omega) (by omega) (by omega) (by omega); omega)
        | (have hra := rdA_no (K := K) (by omega : ¬ (dw s).tmod 3 = 0) (by omega)
           exact z_iret rfl d_Hou_readPage_87 hra.1.symm (hQ _ _ _ _ _ _ _ _ (by rw [hra.2]; exact hS) z0_))
      · refine j_iload_n d_Hou_readPage_70 rfl ?_
        refine s_call1 d_Hou_readPage_71 c_Hou_338 (Nat.le_of_ble_eq_true rfl) (t_Hou_nextDraw hd1.1 hd1.2 ?_)
        refine j_istore_n d_Hou_readPage_74 (by decide) ?_
        show SJ _ _ _ _ [_, _, _, _, _, _] _ _ _ _ _
        have htk := tm_R (l := dw (dw s)) (k := K 0) hd2.1 (by omega)
        refine j_aload_n d_Hou_readPage_75 rfl ?_
        refine gf_H_0_8 f_Hou_59 d_Hou_readPage_76 ?_
        refine j_iload_n d_Hou_readPage_79 rfl ?_
        refine j_iload_n d_Hou_readPage_80 rfl ?_
        refine z_irem d_Hou_readPage_81 (by omega) (by omega) (by omega) ?_
        rw [hq2]
        refine v_call1 d_Hou_readPage_82 c_Hou_203 rfl ⟨_, rfl, rfl⟩ (Nat.le_of_ble_eq_true rfl) (E_H_D2 (fun Q2 kz => t_Dee_cutSign hS hLX z0_.1 z0_.2 (fun s p s0 s1 p0 p1 => hL.tlR hKR s p s0 s1 p0 p1) (by omega) (fun hno1 tdz brz skz wdz => kz _ _ _ _ _ _ _ _ _ _ _ _ _ _ _ _ _ rfl ?_) (fun hy1 hy2 tdz brz skz wdz => kz _ _ _ _ _ _ _ _ _ _ _ _ _ _ _ _ _ rfl ?_)) rfl)
        · have hra := rdA_cut (K := K) (by omega : (dw s).tmod 3 = 1) (by omega)
          have hsh : 0 ≤ shU ez + 1 ∧ shU ez + 1 ≤ 16 := by unfold shU; split <;> omega
          refine j_pop d_Hou_readPage_85 rfl ?_
          refine j_iload_n d_Hou_readPage_86 rfl ?_
          first
          | exact z_iret rfl d_Hou_readPage_87 hra.1.symm (hQ _ _ _ _ _ _ _ _ (by rw [hra.2, if_neg (hpn.mp hno1)]; exact hS) z0_)
          | exact z_iret rfl d_Hou_readPage_87 hra.1.symm (hQ _ _ _ _ _ _ _ _ (by rw [hra.2, if_pos (by by_cases z : K 0 < 20 ∧ ¬ tl K 4 ((dw (dw s)).tmod 6) ((dw (dw (dw s))).tmod (K 0 + 1)) 0 = 1; exact z; exact absurd (hpn.mpr z) (by omega))]; exact hS.put hy2.1 hy2.2 hy3.1 hy3.2 hy4) hsh)
          | exact z_iret rfl d_Hou_readPage_87 hra.1.symm (hQ _ _ _ _ _ _ _ _ (by rw [hra.2]; exact hS.cut hy2.1 hy2.2) hsh)
          | (exfalso; have hcu := cuR_Q hKK ((dw (dw s)).tmod (K 0)); unfold cuR at hno1; rw [if_neg (by omega)] at hno1; have hs5 := hKR.2.1 ((dw (dw s)).tmod (K 0)) (by omega) (by omega); have htl := hL.tlR hKR (w := 2) (K (1 + (dw (dw s)).tmod (K 0))) ((dw (dw s)).tmod (K 0)) (by omega) (by omega) (by omega) (by omega); omega)
          | (have hra := rdA_no (K := K) (by omega : ¬ (dw s).tmod 3 = 0) (by omega)
             exact z_iret rfl d_Hou_readPage_87 hra.1.symm (hQ _ _ _ _ _ _ _ _ (by rw [hra.2]; exact hS) z0_))
        · have hra := rdA_cut (K := K) (by omega : (dw s).tmod 3 = 1) (by omega)
          have hsh : 0 ≤ shU ez + 1 ∧ shU ez + 1 ≤ 16 := by unfold shU; split <;> omega
          refine j_pop d_Hou_readPage_85 rfl ?_
          refine j_iload_n d_Hou_readPage_86 rfl ?_
          first
          | exact z_iret rfl d_Hou_readPage_87 hra.1.symm (hQ _ _ _ _ _ _ _ _ (by rw [hra.2, if_neg (hpn.mp hno1)]; exact hS) z0_)
          | exact z_iret rfl d_Hou_readPage_87 hra.1.symm (hQ _ _ _ _ _ _ _ _ (by rw [hra.2, if_pos (by by_cases z : K 0 < 20 ∧ ¬ tl K 4 ((dw (dw s)).tmod 6) ((dw (dw (dw s))).tmod (K 0 + 1)) 0 = 1; exact z; exact absurd (hpn.mpr z) (by omega))]; exact hS.put hy2.1 hy2.2 hy3.1 hy3.2 hy4) hsh)
          | exact z_iret rfl d_Hou_readPage_87 hra.1.symm (hQ _ _ _ _ _ _ _ _ (by rw [hra.2]; exact hS.cut hy2.1 hy2.2) hsh)
          | (exfalso; have hcu := cuR_Q hKK ((dw (dw s)).tmod (K 0)); unfold cuR at hno1; rw [if_neg (by omega)] at hno1; have hs5 := hKR.2.1 ((dw (dw s)).tmod (K 0)) (by omega) (by omega); have htl := hL.tlR hKR (w := 2) (K (1 + (dw (dw s)).tmod (K 0))) ((dw (dw s)).tmod (K 0)) (by omega) (by omega) (by omega) (by omega); omega)
          | (have hra := rdA_no (K := K) (by omega : ¬ (dw s).tmod 3 = 0) (by omega)
             exact z_iret rfl d_Hou_readPage_87 hra.1.symm (hQ _ _ _ _ _ _ _ _ (by rw [hra.2]; exact hS) z0_))
  · refine j_iload_n d_Hou_readPage_26 rfl ?_
    refine s_call1 d_Hou_readPage_27 c_Hou_338 (Nat.le_of_ble_eq_true rfl) (t_Hou_nextDraw hd1.1 hd1.2 ?_)
    refine j_istore_n d_Hou_readPage_30 (by decide) ?_
    show SJ _ _ _ _ [_, _, _, _, _, _] _ _ _ _ _
    refine j_iload_n d_Hou_readPage_31 rfl ?_
    refine z_bipush d_Hou_readPage_32 (by decide) ?_
    refine z_irem d_Hou_readPage_34 (by omega) (by decide) (by decide) ?_
    refine j_istore d_Hou_readPage_35 (by decide) ?_
    show SJ _ _ _ _ [_, _, _, _, _, _] _ _ _ _ _
    refine j_iload_n d_Hou_readPage_37 rfl ?_
    refine s_call1 d_Hou_readPage_38 c_Hou_338 (Nat.le_of_ble_eq_true rfl) (t_Hou_nextDraw hd2.1 hd2.2 ?_)
    refine j_istore_n d_Hou_readPage_41 (by decide) ?_
    show SJ _ _ _ _ [_, _, _, _, _, _] _ _ _ _ _
    refine j_aload_n d_Hou_readPage_42 rfl ?_
    refine gf_H_0_8 f_Hou_59 d_Hou_readPage_43 ?_
    refine j_iload d_Hou_readPage_46 rfl ?_
    refine j_iload_n d_Hou_readPage_48 rfl ?_
    refine j_iload_n d_Hou_readPage_49 rfl ?_
    refine z_iconst d_Hou_readPage_50 ?_
    refine z_iadd d_Hou_readPage_51 ?_
    refine z_irem d_Hou_readPage_52 (by omega) (by omega) (by omega) ?_
    rw [hq2]
    have hpn := puR_no hKK (s := (dw (dw s)).tmod 6) (p := (dw (dw (dw s))).tmod (K 0 + 1)) (by omega) (by omega)
    refine v_call2 d_Hou_readPage_53 c_Hou_196 rfl ⟨_, rfl, rfl⟩ (Nat.le_of_ble_eq_true rfl) (E_H_D2 (fun Q2 kz => t_Dee_putSign hS hLX z0_.1 z0_.2 (fun s p s0 s1 p0 p1 => hL.tlR hKR s p s0 s1 p0 p1) (by omega) (by omega) (fun hno1 tdz brz skz wdz => kz _ _ _ _ _ _ _ _ _ _ _ _ _ _ _ _ _ rfl ?_) (fun hy1 hy2 hy3 hy4 hy5 tdz brz skz wdz => kz _ _ _ _ _ _ _ _ _ _ _ _ _ _ _ _ _ rfl ?_)) rfl)
    · have hra := rdA_put (K := K) (by omega : (dw s).tmod 3 = 0)
      have hsh : 0 ≤ shU ez + 1 ∧ shU ez + 1 ≤ 16 := by unfold shU; split <;> omega
      refine j_pop d_Hou_readPage_56 rfl ?_
      refine j_goto (t := 86) d_Hou_readPage_57 (by decide) ?_
      refine j_iload_n d_Hou_readPage_86 rfl ?_
      first
      | exact z_iret rfl d_Hou_readPage_87 hra.1.symm (hQ _ _ _ _ _ _ _ _ (by rw [hra.2, if_neg (hpn.mp hno1)]; exact hS) z0_)
      | exact z_iret rfl d_Hou_readPage_87 hra.1.symm (hQ _ _ _ _ _ _ _ _ (by rw [hra.2, if_pos (by by_cases z : K 0 < 20 ∧ ¬ tl K 4 ((dw (dw s)).tmod 6) ((dw (dw (dw s))).tmod (K 0 + 1)) 0 = 1; exact z; exact absurd (hpn.mpr z) (by omega))]; exact hS.put hy2.1 hy2.2 hy3.1 hy3.2 hy4) hsh)
      | exact z_iret rfl d_Hou_readPage_87 hra.1.symm (hQ _ _ _ _ _ _ _ _ (by rw [hra.2]; exact hS.cut hy2.1 hy2.2) hsh)
      | (exfalso; have hcu := cuR_Q hKK ((dw (dw s)).tmod (K 0)); unfold cuR at hno1; rw [if_neg (by omega)] at hno1; have hs5 := hKR.2.1 ((dw (dw s)).tmod (K 0)) (by omega) (by omega); have htl := hL.tlR hKR (w := 2) (K (1 + (dw (dw s)).tmod (K 0))) ((dw (dw s)).tmod (K 0)) (by omega) (by omega) (by omega) (by omega); omega)
      | (have hra := rdA_no (K := K) (by omega : ¬ (dw s).tmod 3 = 0) (by omega)
         exact z_iret rfl d_Hou_readPage_87 hra.1.symm (hQ _ _ _ _ _ _ _ _ (by rw [hra.2]; exact hS) z0_))
    · have hra := rdA_put (K := K) (by omega : (dw s).tmod 3 = 0)
      have hsh : 0 ≤ shU ez + 1 ∧ shU ez + 1 ≤ 16 := by unfold shU; split <;> omega
      refine j_pop d_Hou_readPage_56 rfl ?_
      refine j_goto (t := 86) d_Hou_readPage_57 (by decide) ?_
      refine j_iload_n d_Hou_readPage_86 rfl ?_
      first
      | exact z_iret rfl d_Hou_readPage_87 hra.1.symm (hQ _ _ _ _ _ _ _ _ (by rw [hra.2, if_neg (hpn.mp hno1)]; exact hS) z0_)
      | exact z_iret rfl d_Hou_readPage_87 hra.1.symm (hQ _ _ _ _ _ _ _ _ (by rw [hra.2, if_pos (by by_cases z : K 0 < 20 ∧ ¬ tl K 4 ((dw (dw s)).tmod 6) ((dw (dw (dw s))).tmod (K 0 + 1)) 0 = 1; exact z; exact absurd (hpn.mpr z) (by omega))]; exact hS.put hy2.1 hy2.2 hy3.1 hy3.2 hy4) hsh)
      | exact z_iret rfl d_Hou_readPage_87 hra.1.symm (hQ _ _ _ _ _ _ _ _ (by rw [hra.2]; exact hS.cut hy2.1 hy2.2) hsh)
      | (exfalso; have hcu := cuR_Q hKK ((dw (dw s)).tmod (K 0)); unfold cuR at hno1; rw [if_neg (by omega)] at hno1; have hs5 := hKR.2.1 ((dw (dw s)).tmod (K 0)) (by omega) (by omega); have htl := hL.tlR hKR (w := 2) (K (1 + (dw (dw s)).tmod (K 0))) ((dw (dw s)).tmod (K 0)) (by omega) (by omega) (by omega) (by omega); omega)
      | (have hra := rdA_no (K := K) (by omega : ¬ (dw s).tmod 3 = 0) (by omega)
         exact z_iret rfl d_Hou_readPage_87 hra.1.symm (hQ _ _ _ _ _ _ _ _ (by rw [hra.2]; exact hS) z0_))
theorem rdF_s {m : Nat} {K : Int → Int} {l al : Int} (h : K 21 < 999) : rdF (m + 1) K l al = rdF m (rdK K l) (rdA K l).2 (al + (if lo (rdK K l) 0 (rdK K l 0) = 0 then 1 else 0)) := if_pos h
theorem rdF_e {m : Nat} {K : Int → Int} {l al : Int} (h : ¬ K 21 < 999) : rdF (m + 1) K l al = (K, l, al) := if_neg h
theorem lp_rdr {g : Bool} {d : Nat} {Q : List xM → Option Value → Prop} {hdn bl sp su lc fo rn rl rp pz pn fl dz rdn rlt rbr fz : Int} {rs rm rd ro tm kp by_ tk ps pv pw dk dl dg rsk wr rf : Int → Int} {aI bI cI gI pI yI : Nat → Int} {aF bF cF gF fF pF yF nF : Nat → Int → Int} {pr be wy : Int → Int → Int} {lx qx ax bx cx : Nat → Option Nat} {ts : List TD} {R : (Int → Int) × Int × Int} {n sd0 : Int} {K0 : Int → Int} (rn1 : R32 n) (rs1 : R32 sd0) (hL0 : LB K0 qx ts) (hQ : ∀ (td br ez : Int) (sk wd : Int → Int) (qI : Nat → Int) (qF eF : Nat → Int → Int), SI R.1 (qI 0) (qI 1) (qI 2) (qI 3) (qI 4) (qF 0) (qF 1) (qF 2) (qF 4) → (0 ≤ ez ∧ ez ≤ 16) → Q (W_H hdn bl sp 0 lc fo rn rl rp pz pn fl td br dz ez rdn rlt rbr fz rs rm rd ro tm kp by_ tk ps pv pw sk wd dk dl dg rsk wr rf qI aI bI cI gI pI yI qF aF bF cF gF eF fF pF yF nF pr be wy lx qx ax bx cx ts) (some (.int (ii R.2.2))))  : ∀ (nn : Nat) (k : Int) (s : Int) (al : Int) (K : Int → Int) (td : Int) (br : Int) (ez : Int) (sk : Int → Int) (wd : Int → Int) (qI : Nat → Int) (qF : Nat → Int → Int) (eF : Nat → Int → Int), (n - k).toNat = nn → 0 ≤ k → k ≤ 60 → k ≤ n → 0 ≤ al → al ≤ k → 0 ≤ s → s ≤ 1000003 → SI K (qI 0) (qI 1) (qI 2) (qI 3) (qI 4) (qF 0) (qF 1) (qF 2) (qF 4) → (∀ j, 22 ≤ j → K j = K0 j) → 0 ≤ ez ∧ ez ≤ 16 → n ≤ 60 → rdF (n - k).toNat K s al = R → SJ g m_Hou_readers (d + 6) 52 [some (.ref 0), some (.int (ii sd0)), some (.int (ii n)), some (.int (ii s)), some (.int (ii al)), some (.int (ii k))] [] (W_H hdn bl sp su lc fo rn rl rp pz pn fl td br dz ez rdn rlt rbr fz rs rm rd ro tm kp by_ tk ps pv pw sk wd dk dl dg rsk wr rf qI aI bI cI gI pI yI qF aF bF cF gF eF fF pF yF nF pr be wy lx qx ax bx cx ts) 0 0 Q := by
  intro nn
  induction nn using Nat.strongRecOn with
  | ind nn ih =>
  intro k s al K td br ez sk wd qI qF eF hn k0 k1 kn a0 a1 s0 s1 hS hhi z0_ n60 hR_
  have hKR := hS.2.1
  have hL := hL0.of22 (K' := K) hhi
  have hKK := hL.kok hKR
  have hq5 : qF 4 0 = K 21 := hS.2.2.1
  have hpg := hKR.2.2.1
  have hok1 := rdA_ok hKK s0
  refine j_iload d_Hou_readers_52 rfl ?_
  refine j_iload_n d_Hou_readers_54 rfl ?_
  refine z_icmp_ge (t := 109) d_Hou_readers_55 (by decide) (by first | omega | exact hw _ | exact hx _ _ | assumption) (by first | omega | exact hw _ | exact hx _ _ | assumption) (fun h55 => ?_) (fun h55 => ?_)
  · refine j_aload_n d_Hou_readers_109 rfl ?_
    refine j_iload d_Hou_readers_110 rfl ?_
    refine v_call1 d_Hou_readers_112 c_Hou_121 rfl ⟨_, rfl, rfl⟩ (Nat.le_of_ble_eq_true rfl) (t_Hou_grant  ?_)
    have eR : R = (K, s, al) := by
      rw [← hR_]
      by_cases c : k = n
      · rw [c, show (n - n).toNat = 0 by omega]; rfl
      · rw [show (n - k).toNat = (n - (k + 1)).toNat + 1 by omega, rdF_e (by omega)]
    subst eR
    exact z_iret rfl d_Hou_readers_115 rfl (hQ _ _ _ _ _ _ _ _ hS z0_)
  · refine j_aload_n d_Hou_readers_58 rfl ?_
    refine gf_H_0_1 f_Hou_16 d_Hou_readers_59 ?_
    refine gf_H_9_1 f_Hou_115 d_Hou_readers_62 ?_
    refine z_iconst d_Hou_readers_65 ?_
    refine al_H_15 d_Hou_readers_66 (by omega) (by omega) ?_
    refine z_sipush d_Hou_readers_67 (by decide) ?_
    refine z_icmp_ge (t := 109) d_Hou_readers_70 (by decide) (by first | omega | exact hw _ | exact hx _ _ | assumption) (by first | omega | exact hw _ | exact hx _ _ | assumption) (fun h70 => ?_) (fun h70 => ?_)
    · refine j_aload_n d_Hou_readers_109 rfl ?_
      refine j_iload d_Hou_readers_110 rfl ?_
      refine v_call1 d_Hou_readers_112 c_Hou_121 rfl ⟨_, rfl, rfl⟩ (Nat.le_of_ble_eq_true rfl) (t_Hou_grant  ?_)
      have eR : R = (K, s, al) := by
        rw [← hR_]
        by_cases c : k = n
        · rw [c, show (n - n).toNat = 0 by omega]; rfl
        · rw [show (n - k).toNat = (n - (k + 1)).toNat + 1 by omega, rdF_e (by omega)]
      subst eR
      exact z_iret rfl d_Hou_readers_115 rfl (hQ _ _ _ _ _ _ _ _ hS z0_)
    · have hk21 : K 21 < 999 := by omega
      have hko := rdK_ok hKK s0 hk21
      have h21 : (rdA K s).1 21 = K 21 := hok1.2.2 21 (by omega)
      rw [show (n - k).toNat = (n - (k + 1)).toNat + 1 by omega, rdF_s hk21] at hR_
      refine j_aload_n d_Hou_readers_73 rfl ?_
      refine j_iload_n d_Hou_readers_74 rfl ?_
      refine v_call1 d_Hou_readers_75 c_Hou_324 rfl ⟨_, rfl, rfl⟩ (Nat.le_of_ble_eq_true rfl) (t_Hou_readPage hS hL z0_ s0 s1 (fun td2 br2 ez2 sk2 wd2 qI2 qF2 eF2 hS2 hz2 => ?_))
      refine j_istore_n d_Hou_readers_78 (by decide) ?_
      show SJ _ _ _ _ [_, _, _, _, _, _] _ _ _ _ _
      refine j_aload_n d_Hou_readers_79 rfl ?_
      refine gf_H_0_8 f_Hou_59 d_Hou_readers_80 ?_
      refine v_call0 d_Hou_readers_83 c_Hou_209 rfl ⟨_, rfl, rfl⟩ (Nat.le_of_ble_eq_true rfl) (E_H_D2 (fun Q2 kz => t_Dee_passPage hS2 hz2.1 hz2.2 (fun hno1 => kz _ _ _ _ _ _ _ _ _ _ _ _ _ _ _ _ _ rfl ?_) (fun hy1 => kz _ _ _ _ _ _ _ _ _ _ _ _ _ _ _ _ _ rfl ?_)) rfl)
      · exfalso; omega
      · have hS3 := hS2.pass hy1
        have hsh : 0 ≤ shU ez2 + 1 ∧ shU ez2 + 1 ≤ 16 := by unfold shU; split <;> omega
        refine j_pop d_Hou_readers_86 rfl ?_
        refine j_aload_n d_Hou_readers_87 rfl ?_
        refine gf_H_0_1 f_Hou_16 d_Hou_readers_88 ?_
        refine gf_H_9_0 f_Hou_134 d_Hou_readers_91 ?_
        refine v_call0 d_Hou_readers_94 c_Hou_327 rfl ⟨_, rfl, rfl⟩ (Nat.le_of_ble_eq_true rfl) (E_H_RowD (fun Q2 kz => t_Row_isAllWhole hS3.1 (fun h94 rl2 rp2 rm2 rd2 ro2 hR2 => kz _ _ _ _ _ _ _ _ rfl ?_) (fun h94 rl2 rp2 rm2 rd2 ro2 hR2 => kz _ _ _ _ _ _ _ _ rfl ?_)) rfl)
        · refine z_if_eq (t := 103) d_Hou_readers_97 (by decide) (by first | omega | exact hw _ | exact hx _ _ | assumption) (fun h => absurd h (by decide)) (fun _ => ?_)
          refine z_iinc d_Hou_readers_100 rfl (by decide) ?_
          show SJ _ _ _ _ [_, _, _, _, _, _] _ _ _ _ _
          refine z_iinc d_Hou_readers_103 rfl (by decide) ?_
          show SJ _ _ _ _ [_, _, _, _, _, _] _ _ _ _ _
          refine j_goto (t := 52) d_Hou_readers_106 (by decide) ?_
          first
          | (have h94c : lo (rdK K s) 0 (rdK K s 0) = 0 := h94
             exact ih _ (by omega) (k + 1) (rdA K s).2 (al + 1) (rdK K s) _ _ _ _ _ _ _ _ rfl (by omega) (by omega) (by omega) (by omega) (by omega) hok1.2.1.1 hok1.2.1.2 ⟨hR2, hS3.2⟩ (fun j hj => (hko.2 j (Or.inl hj)).trans (hhi j hj)) hsh n60 (by rw [if_pos h94c] at hR_; exact hR_))
          | (have h94c : ¬ lo (rdK K s) 0 (rdK K s 0) = 0 := h94
             exact ih _ (by omega) (k + 1) (rdA K s).2 al (rdK K s) _ _ _ _ _ _ _ _ rfl (by omega) (by omega) (by omega) (by omega) (by omega) hok1.2.1.1 hok1.2.1.2 ⟨hR2, hS3.2⟩ (fun j hj => (hko.2 j (Or.inl hj)).trans (hhi j hj)) hsh n60 (by rw [if_neg h94c, show al + 0 = al by omega] at hR_; exact hR_))
        · refine z_if_eq (t := 103) d_Hou_readers_97 (by decide) (by first | omega | exact hw _ | exact hx _ _ | assumption) (fun _ => ?_) (fun h => absurd h (by decide))
          refine z_iinc d_Hou_readers_103 rfl (by decide) ?_
          show SJ _ _ _ _ [_, _, _, _, _, _] _ _ _ _ _
          refine j_goto (t := 52) d_Hou_readers_106 (by decide) ?_
          first
          | (have h94c : lo (rdK K s) 0 (rdK K s 0) = 0 := h94
             exact ih _ (by omega) (k + 1) (rdA K s).2 (al + 1) (rdK K s) _ _ _ _ _ _ _ _ rfl (by omega) (by omega) (by omega) (by omega) (by omega) hok1.2.1.1 hok1.2.1.2 ⟨hR2, hS3.2⟩ (fun j hj => (hko.2 j (Or.inl hj)).trans (hhi j hj)) hsh n60 (by rw [if_pos h94c] at hR_; exact hR_))
          | (have h94c : ¬ lo (rdK K s) 0 (rdK K s 0) = 0 := h94
             exact ih _ (by omega) (k + 1) (rdA K s).2 al (rdK K s) _ _ _ _ _ _ _ _ rfl (by omega) (by omega) (by omega) (by omega) (by omega) hok1.2.1.1 hok1.2.1.2 ⟨hR2, hS3.2⟩ (fun j hj => (hko.2 j (Or.inl hj)).trans (hhi j hj)) hsh n60 (by rw [if_neg h94c, show al + 0 = al by omega] at hR_; exact hR_))
theorem t_Hou_readers {g : Bool} {d : Nat} {Q : List xM → Option Value → Prop} {hdn bl sp su lc fo rn rl rp pz pn fl td br dz ez rdn rlt rbr fz : Int} {rs rm rd ro tm kp by_ tk ps pv pw sk wd dk dl dg rsk wr rf : Int → Int} {qI aI bI cI gI pI yI : Nat → Int} {qF aF bF cF gF eF fF pF yF nF : Nat → Int → Int} {pr be wy : Int → Int → Int} {lx qx ax bx cx : Nat → Option Nat} {ts : List TD} {K : Int → Int} (hS : SI K lc fo rn rl rp rs rm rd tm) (hL : LB K lx ts) (hXV : LXV lx ts) (z0_ : 0 ≤ ez ∧ ez ≤ 16) {seed n : Int} (r1 : R32 seed) (r2 : R32 n) (hnx : ¬ ((0 ≤ seed ∧ seed ≤ 1000000) ∧ (1 ≤ n ∧ n ≤ 60)) → Q (W_H hdn bl sp (-1) lc fo rn rl rp pz pn fl td br dz ez rdn rlt rbr fz rs rm rd ro tm kp by_ tk ps pv pw sk wd dk dl dg rsk wr (up rf (rix (-1)) (rf (rix (-1)) + 1)) qI aI bI cI gI pI yI qF aF bF cF gF eF fF pF yF nF pr be wy lx qx ax bx cx ts) (some (.int (ii (-1))))) (hQ : (0 ≤ seed ∧ seed ≤ 1000000) ∧ (1 ≤ n ∧ n ≤ 60) → ∀ (td br ez : Int) (sk wd : Int → Int) (qI : Nat → Int) (qF eF : Nat → Int → Int) (qx : Nat → Option Nat), SI (rdF n.toNat K seed 0).1 (qI 0) (qI 1) (qI 2) (qI 3) (qI 4) (qF 0) (qF 1) (qF 2) (qF 4) → LXV qx ts → (0 ≤ ez ∧ ez ≤ 16) → Q (W_H 1 bl sp 0 lc fo rn rl rp pz pn fl td br dz ez rdn rlt rbr fz rs rm rd ro tm kp by_ tk ps pv pw sk wd dk dl dg rsk wr rf qI aI bI cI gI pI yI qF aF bF cF gF eF fF pF yF nF pr be wy lx qx ax bx cx ts) (some (.int (ii (rdF n.toNat K seed 0).2.2))))  : CT g m_Hou_readers (d + 6) [.ref 0, .int (ii seed), .int (ii n)] (W_H hdn bl sp su lc fo rn rl rp pz pn fl td br dz ez rdn rlt rbr fz rs rm rd ro tm kp by_ tk ps pv pw sk wd dk dl dg rsk wr rf qI aI bI cI gI pI yI qF aF bF cF gF eF fF pF yF nF pr be wy lx qx ax bx cx ts) 0 0 Q := by
  refine CT.of (by decide) (Nat.le_of_ble_eq_true rfl) ?_
  show SJ _ _ _ _ [some (.ref 0), some (.int (ii seed)), some (.int (ii n)), none, none, none] [] _ _ _ _
  refine j_iload_n d_Hou_readers_0 rfl ?_
  refine z_if_lt (t := 22) d_Hou_readers_1 (by decide) (by first | omega | exact hw _ | exact hx _ _ | assumption) (fun h1 => ?_) (fun h1 => ?_)
  · refine j_aload_n d_Hou_readers_22 rfl ?_
    refine z_iconst d_Hou_readers_23 ?_
    refine v_call1 d_Hou_readers_24 c_Hou_111 rfl ⟨_, rfl, rfl⟩ (Nat.le_of_ble_eq_true rfl) (t_Hou_refuse (by omega) (by omega) ?_)
    exact z_iret rfl d_Hou_readers_27 rfl (hnx (by omega))
  · refine j_iload_n d_Hou_readers_4 rfl ?_
    refine z_ldcw (w := 1000000) d_Hou_readers_5 k_Hou_320 (by decide) ?_
    refine z_icmp_gt (t := 22) d_Hou_readers_8 (by decide) (by first | omega | exact hw _ | exact hx _ _ | assumption) (by first | omega | exact hw _ | exact hx _ _ | assumption) (fun h8 => ?_) (fun h8 => ?_)
    · refine j_aload_n d_Hou_readers_22 rfl ?_
      refine z_iconst d_Hou_readers_23 ?_
      refine v_call1 d_Hou_readers_24 c_Hou_111 rfl ⟨_, rfl, rfl⟩ (Nat.le_of_ble_eq_true rfl) (t_Hou_refuse (by omega) (by omega) ?_)
      exact z_iret rfl d_Hou_readers_27 rfl (hnx (by omega))
    · refine j_iload_n d_Hou_readers_11 rfl ?_
      refine z_iconst d_Hou_readers_12 ?_
      refine z_icmp_lt (t := 22) d_Hou_readers_13 (by decide) (by first | omega | exact hw _ | exact hx _ _ | assumption) (by first | omega | exact hw _ | exact hx _ _ | assumption) (fun h13 => ?_) (fun h13 => ?_)
      · refine j_aload_n d_Hou_readers_22 rfl ?_
        refine z_iconst d_Hou_readers_23 ?_
        refine v_call1 d_Hou_readers_24 c_Hou_111 rfl ⟨_, rfl, rfl⟩ (Nat.le_of_ble_eq_true rfl) (t_Hou_refuse (by omega) (by omega) ?_)
        exact z_iret rfl d_Hou_readers_27 rfl (hnx (by omega))
      · refine j_iload_n d_Hou_readers_16 rfl ?_
        refine z_bipush d_Hou_readers_17 (by decide) ?_
        refine z_icmp_le (t := 28) d_Hou_readers_19 (by decide) (by first | omega | exact hw _ | exact hx _ _ | assumption) (by first | omega | exact hw _ | exact hx _ _ | assumption) (fun h19 => ?_) (fun h19 => ?_)
        · refine j_aload_n d_Hou_readers_28 rfl ?_
          refine gf_H_0_1 f_Hou_16 d_Hou_readers_29 ?_
          refine j_aload_n d_Hou_readers_32 rfl ?_
          refine gf_H_0_0 f_Hou_12 d_Hou_readers_33 ?_
          refine v_call1 d_Hou_readers_36 c_Hou_321 rfl ⟨_, rfl, rfl⟩ (Nat.le_of_ble_eq_true rfl) (E_H_SCDS (fun Q2 kz => t_Sta_copyFrom hXV (fun lz hlz => kz _ _ _ _ _ _ _ _ _ _ _ _ rfl ?_)) rfl)
          refine j_aload_n d_Hou_readers_39 rfl ?_
          refine z_iconst d_Hou_readers_40 ?_
          refine pf_H_0_13 f_Hou_91 d_Hou_readers_41 (by first | exact Or.inl rfl | exact Or.inr rfl | assumption | omega) ?_
          refine j_iload_n d_Hou_readers_44 rfl ?_
          refine j_istore_n d_Hou_readers_45 (by decide) ?_
          show SJ _ _ _ _ [_, _, _, _, _, _] _ _ _ _ _
          refine z_iconst d_Hou_readers_46 ?_
          refine j_istore d_Hou_readers_47 (by decide) ?_
          show SJ _ _ _ _ [_, _, _, _, _, _] _ _ _ _ _
          refine z_iconst d_Hou_readers_49 ?_
          refine j_istore d_Hou_readers_50 (by decide) ?_
          show SJ _ _ _ _ [_, _, _, _, _, _] _ _ _ _ _
          have hLz := hL.texts (lx' := lz) (ts' := ts) hS.2.1.2.2.2.2.2.1.2 hlz (fun j t h => h)
          exact lp_rdr (R := rdF n.toNat K seed 0) r2 r1 hLz (fun td br ez sk wd qI qF eF h1 h2 => hQ (by omega) _ _ _ _ _ _ _ _ _ h1 (hXV.eq hlz) h2) _ 0 seed 0 K _ _ _ _ _ _ _ _ rfl (by omega) (by omega) (by omega) (by omega) (by omega) (by omega) (by omega) hS.copy (fun j hj => rfl) z0_ (by omega) (by rw [show n - 0 = n by omega])
        · refine j_aload_n d_Hou_readers_22 rfl ?_
          refine z_iconst d_Hou_readers_23 ?_
          refine v_call1 d_Hou_readers_24 c_Hou_111 rfl ⟨_, rfl, rfl⟩ (Nat.le_of_ble_eq_true rfl) (t_Hou_refuse (by omega) (by omega) ?_)
          exact z_iret rfl d_Hou_readers_27 rfl (hnx (by omega))
def drR (KD : Int → Int) (hdn what : Int) : Int := if hdn = 0 then -1 else if what = 0 then KD 0 else if what = 1 then lo KD 0 (KD 0) else if 2 ≤ what ∧ what - 2 < KD 0 then KD (what - 1) else -1
theorem t_Hou_drawn {g : Bool} {d : Nat} {Q : List xM → Option Value → Prop} {hdn bl sp su lc fo rn rl rp pz pn fl td br dz ez rdn rlt rbr fz : Int} {rs rm rd ro tm kp by_ tk ps pv pw sk wd dk dl dg rsk wr rf : Int → Int} {qI aI bI cI gI pI yI : Nat → Int} {qF aF bF cF gF eF fF pF yF nF : Nat → Int → Int} {pr be wy : Int → Int → Int} {lx qx ax bx cx : Nat → Option Nat} {ts : List TD} {KD : Int → Int} (hz : hdn = 0 ∨ hdn = 1) (hD : hdn = 1 → RI KD (qI 2) (qI 3) (qI 4) (qF 0) (qF 1) (qF 2)) {what : Int} (r1 : R32 what) (hQ : ∀ (qI : Nat → Int) (qF : Nat → Int → Int), (hdn = 1 → RI KD (qI 2) (qI 3) (qI 4) (qF 0) (qF 1) (qF 2)) → Q (W_H hdn bl sp su lc fo rn rl rp pz pn fl td br dz ez rdn rlt rbr fz rs rm rd ro tm kp by_ tk ps pv pw sk wd dk dl dg rsk wr rf qI aI bI cI gI pI yI qF aF bF cF gF eF fF pF yF nF pr be wy lx qx ax bx cx ts) (some (.int (ii (drR KD hdn what)))))  : CT g m_Hou_drawn (d + 4) [.ref 0, .int (ii what)] (W_H hdn bl sp su lc fo rn rl rp pz pn fl td br dz ez rdn rlt rbr fz rs rm rd ro tm kp by_ tk ps pv pw sk wd dk dl dg rsk wr rf qI aI bI cI gI pI yI qF aF bF cF gF eF fF pF yF nF pr be wy lx qx ax bx cx ts) 0 0 Q := by
  refine CT.of (by decide) (Nat.le_of_ble_eq_true rfl) ?_
  show SJ _ _ _ _ [some (.ref 0), some (.int (ii what))] [] _ _ _ _
  refine j_aload_n d_Hou_drawn_0 rfl ?_
  refine gf_H_0_13 f_Hou_91 d_Hou_drawn_1 ?_
  refine z_if_eq (t := 11) d_Hou_drawn_4 (by decide) (by first | omega | exact hw _ | exact hx _ _ | assumption) (fun h4 => ?_) (fun h4 => ?_)
  · refine z_iconst d_Hou_drawn_11 ?_
    first
    | exact z_iret rfl d_Hou_drawn_12 (by unfold drR; rw [if_pos (by omega)]) (hQ _ _ hD)
    | exact z_iret rfl d_Hou_drawn_12 (by unfold drR; rw [if_neg (by omega), if_neg (by omega), if_neg (by omega), if_neg (by omega)]) (hQ _ _ hD)
  · have hR := hD (by omega)
    obtain ⟨hrn, ⟨hn0, hn1⟩, hrs, hrp, hpu⟩ := id hR
    refine j_iload_n d_Hou_drawn_7 rfl ?_
    refine z_if_ge (t := 13) d_Hou_drawn_8 (by decide) (by first | omega | exact hw _ | exact hx _ _ | assumption) (fun h8 => ?_) (fun h8 => ?_)
    · refine j_iload_n d_Hou_drawn_13 rfl ?_
      refine z_case (0) (fun h14_0 => ?_) (fun h14_0 => ?_)
      · refine z_lookIn (t := 40) (o := 26) d_Hou_drawn_14 (by first | omega | exact hw _ | exact hx _ _ | assumption) h14_0 (by decide) (by decide) (by decide) ?_
        refine j_aload_n d_Hou_drawn_40 rfl ?_
        refine gf_H_0_1 f_Hou_16 d_Hou_drawn_41 ?_
        refine gf_H_9_0 f_Hou_134 d_Hou_drawn_44 ?_
        refine gf_H_10_1 f_Hou_138 d_Hou_drawn_47 ?_
        exact z_iret rfl d_Hou_drawn_50 (by unfold drR; rw [if_neg (by omega), if_pos (by omega)]; exact hrn) (hQ _ _ hD)
      refine z_case (1) (fun h14_1 => ?_) (fun h14_1 => ?_)
      · refine z_lookIn (t := 51) (o := 37) d_Hou_drawn_14 (by first | omega | exact hw _ | exact hx _ _ | assumption) h14_1 (by decide) (by decide) (by decide) ?_
        refine j_aload_n d_Hou_drawn_51 rfl ?_
        refine gf_H_0_1 f_Hou_16 d_Hou_drawn_52 ?_
        refine gf_H_9_0 f_Hou_134 d_Hou_drawn_55 ?_
        refine v_call0 d_Hou_drawn_58 c_Hou_331 rfl ⟨_, rfl, rfl⟩ (Nat.le_of_ble_eq_true rfl) (E_H_RowD (fun Q2 kz => t_Row_looseOnes hR (fun rl2 rp2 rm2 rd2 ro2 hR2 => kz _ _ _ _ _ _ _ _ rfl ?_)) rfl)
        exact z_iret rfl d_Hou_drawn_61 (by unfold drR; rw [if_neg (by omega), if_neg (by omega), if_pos (by omega)]) (hQ _ _ (fun _ => hR2))
      refine z_lookOut (t := 62) d_Hou_drawn_14 (by first | omega | exact hw _ | exact hx _ _ | assumption) (by simp [Op.lookupswitch.offset_cons, Op.lookupswitch.offset_nil]; omega) (by decide) (by decide) ?_
      refine j_aload_n d_Hou_drawn_62 rfl ?_
      refine gf_H_0_1 f_Hou_16 d_Hou_drawn_63 ?_
      refine gf_H_9_0 f_Hou_134 d_Hou_drawn_66 ?_
      refine j_iload_n d_Hou_drawn_69 rfl ?_
      refine z_iconst d_Hou_drawn_70 ?_
      refine z_isub d_Hou_drawn_71 ?_
      refine v_call1 d_Hou_drawn_72 c_Hou_216 rfl ⟨_, rfl, rfl⟩ (Nat.le_of_ble_eq_true rfl) (E_H_RowD (fun Q2 kz => t_Row_has (by omega) (by omega) (fun h72 => kz _ _ _ _ _ _ _ _ rfl ?_) (fun h72 => kz _ _ _ _ _ _ _ _ rfl ?_)) rfl)
      · refine z_if_eq (t := 95) d_Hou_drawn_75 (by decide) (by first | omega | exact hw _ | exact hx _ _ | assumption) (fun h => absurd h (by decide)) (fun _ => ?_)
        refine j_aload_n d_Hou_drawn_78 rfl ?_
        refine gf_H_0_1 f_Hou_16 d_Hou_drawn_79 ?_
        refine gf_H_9_0 f_Hou_134 d_Hou_drawn_82 ?_
        refine gf_H_10_0 f_Hou_219 d_Hou_drawn_85 ?_
        refine j_iload_n d_Hou_drawn_88 rfl ?_
        refine z_iconst d_Hou_drawn_89 ?_
        refine z_isub d_Hou_drawn_90 ?_
        refine al_H_11 d_Hou_drawn_91 (by omega) (by omega) ?_
        refine j_goto (t := 96) d_Hou_drawn_92 (by decide) ?_
        have hsg := hrs (what - 2) (by omega) (by omega)
        rw [show 1 + (what - 2) = what - 1 by omega] at hsg
        exact z_iret rfl d_Hou_drawn_96 (by unfold drR; rw [if_neg (by omega), if_neg (by omega), if_neg (by omega), if_pos (by omega)]; exact hsg.1) (hQ _ _ (fun _ => hR))
      · refine z_if_eq (t := 95) d_Hou_drawn_75 (by decide) (by first | omega | exact hw _ | exact hx _ _ | assumption) (fun _ => ?_) (fun h => absurd h (by decide))
        refine z_iconst d_Hou_drawn_95 ?_
        exact z_iret rfl d_Hou_drawn_96 (by unfold drR; rw [if_neg (by omega), if_neg (by omega), if_neg (by omega), if_neg (by omega)]) (hQ _ _ (fun _ => hR))
    · refine z_iconst d_Hou_drawn_11 ?_
      first
      | exact z_iret rfl d_Hou_drawn_12 (by unfold drR; rw [if_pos (by omega)]) (hQ _ _ hD)
      | exact z_iret rfl d_Hou_drawn_12 (by unfold drR; rw [if_neg (by omega), if_neg (by omega), if_neg (by omega), if_neg (by omega)]) (hQ _ _ hD)
