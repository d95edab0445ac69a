theorem hc2_R7 {K : Int → Int} {pr : Int → Int → Int} {a : Int} : ∀ (n : Nat) (b : Int) (x : hT4), R32 x.2.1 → R32 (hc2 K pr a n b x).2.1
  | 0, b, x, h => h
  | n + 1, b, x, h => by
    rw [hc2_s]
    refine hc2_R7 n (b + 1) _ ?_
    have key : ∀ (k : Int) (x : hT4), 0 ≤ k → k ≤ 2 → R32 x.2.1 → R32 (thS pr a b k x).2.1 := fun k x k0 k1 hx => by
      unfold thS
      split
      · show R32 k; omega
      · exact hx
    split
    · exact key _ _ (by omega) (by omega) (key _ _ (by omega) (by omega) (key _ _ (by omega) (by omega) h))
    · exact h
theorem hc1_R7 {K : Int → Int} {pr : Int → Int → Int} {l : Int} : ∀ (n : Nat) (a : Int) (x : hT4), R32 x.2.1 → R32 (hc1 K pr l n a x).2.1
  | 0, a, x, h => h
  | n + 1, a, x, h => by
    rw [hc1_s]
    exact hc1_R7 n (a + 1) _ (hc2_R7 _ _ _ h)
def hiR (K : Int → Int) (people w : Int) (y : Int → Int) : Int := if (0 ≤ people ∧ people ≤ 63) ∧ (0 ≤ w ∧ w ≤ 3) ∧ sd K &&& ii people ≠ ii 0 then (if hdF K people y 0 = 1000000 then -1 else hdF K people y w) else -1
theorem t_Hou_hide {g : Bool} {d : Nat} {Q : List xM → Option Value → Prop} {hdn bl sp su lc fo rn rl rp pz pn fl td br dz ez rdn rlt rbr fz : Int} {rs rm rd ro tm kp by_ tk ps pv pw sk wd dk dl dg rsk wr rf : Int → Int} {qI aI bI cI gI pI yI : Nat → Int} {qF aF bF cF gF eF fF pF yF nF : Nat → Int → Int} {pr be wy : Int → Int → Int} {lx qx ax bx cx : Nat → Option Nat} {ts : List TD} {K : Int → Int} (hS : SI K lc fo rn rl rp rs rm rd tm) (hL : LB K lx ts) (hP7 : R32 (pI 7)) {people w : Int} {y : Int → Int} (r1 : R32 people) (r2 : R32 w) (hQ : ∀ (rl rp td br : Int) (rm rd ro sk wd : Int → Int) (pI yI : Nat → Int) (pF yF : Nat → Int → Int) (pr be : Int → Int → Int), R32 (pI 7) → RI K rn rl rp rs rm rd → Q (W_H hdn bl sp su lc fo rn rl rp pz pn fl td br dz ez rdn rlt rbr fz rs rm rd ro tm kp by_ tk ps pv pw sk wd dk dl dg rsk wr rf qI aI bI cI gI pI yI qF aF bF cF gF eF fF pF yF nF pr be wy lx qx ax bx cx ts) (some (.int (ii (hiR K people w y)))))  : CT g m_Hou_hide (d + 6) [.ref 0, .int (ii people), .int (ii w)] (W_H hdn bl sp su lc fo rn rl rp pz pn fl td br dz ez rdn rlt rbr fz rs rm rd ro tm kp by_ tk ps pv pw sk wd dk dl dg rsk wr rf qI aI bI cI gI pI yI qF aF bF cF gF eF fF pF yF nF pr be wy lx qx ax bx cx ts) 0 0 Q := by
  refine CT.of (by decide) (Nat.le_of_ble_eq_true rfl) ?_
  show SJ _ _ _ _ [some (.ref 0), some (.int (ii people)), some (.int (ii w))] [] _ _ _ _
  have hKR := hS.2.1
  have hKK := hL.kok hKR
  have hLX := hL.lxE hKR
  have hn20 := hKR.1
  obtain ⟨hR, -, htm0, htm1, htm2, hlc, hfo⟩ := id hS
  obtain ⟨hrn, ⟨hn0, hn1⟩, hrs, hrp, hpu⟩ := id hR
  obtain ⟨f_, l_, hF⟩ : ∃ f_ l_, flF K people (K 0 - 0).toNat 0 (K 0, -1) = (f_, l_) := ⟨_, _, rfl⟩
  refine j_iload_n d_Hou_hide_0 rfl ?_
  refine z_if_lt (t := 19) d_Hou_hide_1 (by decide) (by first | omega | exact hw _ | exact hx _ _ | assumption) (fun h1 => ?_) (fun h1 => ?_)
  · refine z_iconst d_Hou_hide_19 ?_
    exact z_iret rfl d_Hou_hide_20 (by unfold hiR; rw [if_neg (fun z => by have z1 := z.1; have z2 := z.2.1; omega)]) (hQ _ _ _ _ _ _ _ _ _ _ _ _ _ _ _ hP7 hR)
  · refine j_iload_n d_Hou_hide_4 rfl ?_
    refine z_bipush d_Hou_hide_5 (by decide) ?_
    refine z_icmp_gt (t := 19) d_Hou_hide_7 (by decide) (by first | omega | exact hw _ | exact hx _ _ | assumption) (by first | omega | exact hw _ | exact hx _ _ | assumption) (fun h7 => ?_) (fun h7 => ?_)
    · refine z_iconst d_Hou_hide_19 ?_
      exact z_iret rfl d_Hou_hide_20 (by unfold hiR; rw [if_neg (fun z => by have z1 := z.1; have z2 := z.2.1; omega)]) (hQ _ _ _ _ _ _ _ _ _ _ _ _ _ _ _ hP7 hR)
    · refine j_iload_n d_Hou_hide_10 rfl ?_
      refine z_if_lt (t := 19) d_Hou_hide_11 (by decide) (by first | omega | exact hw _ | exact hx _ _ | assumption) (fun h11 => ?_) (fun h11 => ?_)
      · refine z_iconst d_Hou_hide_19 ?_
        exact z_iret rfl d_Hou_hide_20 (by unfold hiR; rw [if_neg (fun z => by have z1 := z.1; have z2 := z.2.1; omega)]) (hQ _ _ _ _ _ _ _ _ _ _ _ _ _ _ _ hP7 hR)
      · refine j_iload_n d_Hou_hide_14 rfl ?_
        refine z_iconst d_Hou_hide_15 ?_
        refine z_icmp_le (t := 21) d_Hou_hide_16 (by decide) (by first | omega | exact hw _ | exact hx _ _ | assumption) (by first | omega | exact hw _ | exact hx _ _ | assumption) (fun h16 => ?_) (fun h16 => ?_)
        · refine j_aload_n d_Hou_hide_21 rfl ?_
          refine gf_H_0_10 f_Hou_76 d_Hou_hide_22 ?_
          refine j_aload_n d_Hou_hide_25 rfl ?_
          refine gf_H_0_0 f_Hou_12 d_Hou_hide_26 ?_
          refine j_iload_n d_Hou_hide_29 rfl ?_
          refine v_call2 d_Hou_hide_30 c_Hou_300 rfl ⟨_, rfl, rfl⟩ (Nat.le_of_ble_eq_true rfl) (E_H_PX (fun Q2 kz => t_Pap_hides hS hLX (fun s p s0 s1 p0 p1 => hL.tlR hKR s p s0 s1 p0 p1) hP7 hF (fun hno1 rl2 rp2 rm2 rd2 ro2 hR2 => kz _ _ _ _ _ _ _ _ _ _ _ _ _ _ _ _ _ _ _ _ _ _ _ _ _ _ _ _ _ _ _ _ rfl ?_) (fun hl_ td2 br2 sk2 wd2 pr2 rl2 rp2 rm2 rd2 ro2 q6 q7 q8 q9 hpr hR2 hc => ⟨fun hlt => kz _ _ _ _ _ _ _ _ _ _ _ _ _ _ _ _ _ _ _ _ _ _ _ _ _ _ _ _ _ _ _ _ rfl ?_, fun hlt => kz _ _ _ _ _ _ _ _ _ _ _ _ _ _ _ _ _ _ _ _ _ _ _ _ _ _ _ _ _ _ _ _ rfl ?_⟩)) rfl)
          · have hsd := sd_fl hKR (by omega) (by omega) hF
            first
            | (have h72 : R32 q7 := by
                 have h8 := hc1_R7 (K := K) (pr := pr2) (l := l_) (f_ + 1 - 0).toNat 0 (100000000, pI 7, pI 8, pI 9) hP7
                 rw [hc] at h8
                 exact h8
               have hfl := fl_in hn20.1 hF hl_
               rw [hc1_congr (pr2 := pB K) (fun s q s0 s1 q0 q1 => hpr s q s0 s1 q0 (by omega)) (by omega) (by omega) _ 0 _ (by omega) (by omega)] at hc
               have hhe := hide_eq hKK hF hl_ hc y
               have hgo : (0 ≤ people ∧ people ≤ 63) ∧ (0 ≤ w ∧ w ≤ 3) ∧ sd K &&& ii people ≠ ii 0 := ⟨by omega, by omega, hsd.mpr hl_⟩)
            | skip
            refine z_if_ne (t := 38) d_Hou_hide_33 (by decide) (by first | omega | exact hw _ | exact hx _ _ | assumption) (fun h => absurd h (by decide)) (fun _ => ?_)
            refine z_iconst d_Hou_hide_36 ?_
            first
            | exact z_iret rfl d_Hou_hide_37 (by unfold hiR; rw [if_neg (fun z => hsd.mp z.2.2 hno1)]) (hQ _ _ _ _ _ _ _ _ _ _ _ _ _ _ _ hP7 hR2)
            | exact z_iret rfl d_Hou_hide_37 (by unfold hiR; rw [if_pos hgo, if_pos ((hhe.resolve_left (fun z => hlt z.1)).2)]) (hQ _ _ _ _ _ _ _ _ _ _ _ _ _ _ _ h72 hR2)
          · have hsd := sd_fl hKR (by omega) (by omega) hF
            first
            | (have h72 : R32 q7 := by
                 have h8 := hc1_R7 (K := K) (pr := pr2) (l := l_) (f_ + 1 - 0).toNat 0 (100000000, pI 7, pI 8, pI 9) hP7
                 rw [hc] at h8
                 exact h8
               have hfl := fl_in hn20.1 hF hl_
               rw [hc1_congr (pr2 := pB K) (fun s q s0 s1 q0 q1 => hpr s q s0 s1 q0 (by omega)) (by omega) (by omega) _ 0 _ (by omega) (by omega)] at hc
               have hhe := hide_eq hKK hF hl_ hc y
               have hgo : (0 ≤ people ∧ people ≤ 63) ∧ (0 ≤ w ∧ w ≤ 3) ∧ sd K &&& ii people ≠ ii 0 := ⟨by omega, by omega, hsd.mpr hl_⟩)
            | skip
            refine z_if_ne (t := 38) d_Hou_hide_33 (by decide) (by first | omega | exact hw _ | exact hx _ _ | assumption) (fun _ => ?_) (fun h => absurd h (by decide))
            refine j_iload_n d_Hou_hide_38 rfl ?_
            refine z_case (0) (fun h39_0 => ?_) (fun h39_0 => ?_)
            · refine z_tabIn (t := 64) (o := 25) d_Hou_hide_39 (by first | omega | exact hw _ | exact hx _ _ | assumption) (by omega) (by omega) (by rw [h39_0]; rfl) (by decide) ?_
              refine j_aload_n d_Hou_hide_64 rfl ?_
              refine gf_H_0_10 f_Hou_76 d_Hou_hide_65 ?_
              refine gf_H_62_6 f_Hou_304 d_Hou_hide_68 ?_
              have hx := (hhe.resolve_right (fun z => z.1 hlt))
              exact z_iret rfl d_Hou_hide_71 (by unfold hiR; rw [if_pos hgo, if_neg hx.2.1, h39_0]; exact (congrArg (fun z : hT4 => z.1) hx.2.2).symm) (hQ _ _ _ _ _ _ _ _ _ _ _ _ _ _ _ h72 hR2)
            refine z_case (1) (fun h39_1 => ?_) (fun h39_1 => ?_)
            · refine z_tabIn (t := 72) (o := 33) d_Hou_hide_39 (by first | omega | exact hw _ | exact hx _ _ | assumption) (by omega) (by omega) (by rw [h39_1]; rfl) (by decide) ?_
              refine j_aload_n d_Hou_hide_72 rfl ?_
              refine gf_H_0_10 f_Hou_76 d_Hou_hide_73 ?_
              refine gf_H_62_7 f_Hou_307 d_Hou_hide_76 ?_
              have hx := (hhe.resolve_right (fun z => z.1 hlt))
              exact z_iret rfl d_Hou_hide_79 (by unfold hiR; rw [if_pos hgo, if_neg hx.2.1, h39_1]; exact (congrArg (fun z : hT4 => z.2.1) hx.2.2).symm) (hQ _ _ _ _ _ _ _ _ _ _ _ _ _ _ _ h72 hR2)
            refine z_case (2) (fun h39_2 => ?_) (fun h39_2 => ?_)
            · refine z_tabIn (t := 80) (o := 41) d_Hou_hide_39 (by first | omega | exact hw _ | exact hx _ _ | assumption) (by omega) (by omega) (by rw [h39_2]; rfl) (by decide) ?_
              refine j_aload_n d_Hou_hide_80 rfl ?_
              refine gf_H_0_10 f_Hou_76 d_Hou_hide_81 ?_
              refine gf_H_62_8 f_Hou_310 d_Hou_hide_84 ?_
              have hx := (hhe.resolve_right (fun z => z.1 hlt))
              exact z_iret rfl d_Hou_hide_87 (by unfold hiR; rw [if_pos hgo, if_neg hx.2.1, h39_2]; exact (congrArg (fun z : hT4 => z.2.2.1) hx.2.2).symm) (hQ _ _ _ _ _ _ _ _ _ _ _ _ _ _ _ h72 hR2)
            refine z_tabOut (t := 88) d_Hou_hide_39 (by first | omega | exact hw _ | exact hx _ _ | assumption) (by omega) (by decide) ?_
            refine j_aload_n d_Hou_hide_88 rfl ?_
            refine gf_H_0_10 f_Hou_76 d_Hou_hide_89 ?_
            refine gf_H_62_9 f_Hou_313 d_Hou_hide_92 ?_
            have hx := (hhe.resolve_right (fun z => z.1 hlt))
            have hw3 : w = 3 := by omega
            exact z_iret rfl d_Hou_hide_95 (by unfold hiR; rw [if_pos hgo, if_neg hx.2.1, hw3]; exact (congrArg (fun z : hT4 => z.2.2.2) hx.2.2).symm) (hQ _ _ _ _ _ _ _ _ _ _ _ _ _ _ _ h72 hR2)
          · have hsd := sd_fl hKR (by omega) (by omega) hF
            first
            | (have h72 : R32 q7 := by
                 have h8 := hc1_R7 (K := K) (pr := pr2) (l := l_) (f_ + 1 - 0).toNat 0 (100000000, pI 7, pI 8, pI 9) hP7
                 rw [hc] at h8
                 exact h8
               have hfl := fl_in hn20.1 hF hl_
               rw [hc1_congr (pr2 := pB K) (fun s q s0 s1 q0 q1 => hpr s q s0 s1 q0 (by omega)) (by omega) (by omega) _ 0 _ (by omega) (by omega)] at hc
               have hhe := hide_eq hKK hF hl_ hc y
               have hgo : (0 ≤ people ∧ people ≤ 63) ∧ (0 ≤ w ∧ w ≤ 3) ∧ sd K &&& ii people ≠ ii 0 := ⟨by omega, by omega, hsd.mpr hl_⟩)
            | skip
            refine z_if_ne (t := 38) d_Hou_hide_33 (by decide) (by first | omega | exact hw _ | exact hx _ _ | assumption) (fun h => absurd h (by decide)) (fun _ => ?_)
            refine z_iconst d_Hou_hide_36 ?_
            first
            | exact z_iret rfl d_Hou_hide_37 (by unfold hiR; rw [if_neg (fun z => hsd.mp z.2.2 hno1)]) (hQ _ _ _ _ _ _ _ _ _ _ _ _ _ _ _ hP7 hR2)
            | exact z_iret rfl d_Hou_hide_37 (by unfold hiR; rw [if_pos hgo, if_pos ((hhe.resolve_left (fun z => hlt z.1)).2)]) (hQ _ _ _ _ _ _ _ _ _ _ _ _ _ _ _ h72 hR2)
        · refine z_iconst d_Hou_hide_19 ?_
          exact z_iret rfl d_Hou_hide_20 (by unfold hiR; rw [if_neg (fun z => by have z1 := z.1; have z2 := z.2.1; omega)]) (hQ _ _ _ _ _ _ _ _ _ _ _ _ _ _ _ hP7 hR)
theorem lp_hsd {g : Bool} {d : Nat} {Q : List xM → Option Value → Prop} {hdn bl sp su lc fo rn pz pn fl td br dz ez rdn rlt rbr fz : Int} {rs tm kp by_ tk ps pv pw sk wd dk dl dg rsk wr rf : Int → Int} {qI aI bI cI gI pI yI : Nat → Int} {qF aF bF cF gF eF fF pF yF nF : Nat → Int → Int} {pr be wy : Int → Int → Int} {lx qx ax bx cx : Nat → Option Nat} {ts : List TD} {K : Int → Int} (hKR : KR K) (hQ : ∀ rl rp rm rd ro, RI K rn rl rp rs rm rd → Q (W_H hdn bl sp su lc fo rn rl rp pz pn fl td br dz ez rdn rlt rbr fz rs rm rd ro tm kp by_ tk ps pv pw sk wd dk dl dg rsk wr rf qI aI bI cI gI pI yI qF aF bF cF gF eF fF pF yF nF pr be wy lx qx ax bx cx ts) (some (.int (sd K))))  : ∀ (nn : Nat) (p : Int) (rl : Int) (rp : Int) (rm : Int → Int) (rd : Int → Int) (ro : Int → Int), (rn - p).toNat = nn → 0 ≤ p → p ≤ rn → RI K rn rl rp rs rm rd → SJ g m_Hou_said (d + 5) 4 [some (.ref 0), some (.int (sdF K (mt K) p.toNat)), some (.int (ii p))] [] (W_H hdn bl sp su lc fo rn rl rp pz pn fl td br dz ez rdn rlt rbr fz rs rm rd ro tm kp by_ tk ps pv pw sk wd dk dl dg rsk wr rf qI aI bI cI gI pI yI qF aF bF cF gF eF fF pF yF nF pr be wy lx qx ax bx cx ts) 0 0 Q := by
  intro nn
  induction nn using Nat.strongRecOn with
  | ind nn ih =>
  intro p rl rp rm rd ro hn p0 p1 hR
  obtain ⟨hrn, ⟨hn0, hn1⟩, hrs, hrp, hpu⟩ := id hR
  refine j_iload_n d_Hou_said_4 rfl ?_
  refine j_aload_n d_Hou_said_5 rfl ?_
  refine gf_H_0_0 f_Hou_12 d_Hou_said_6 ?_
  refine gf_H_1_0 f_Hou_134 d_Hou_said_9 ?_
  refine gf_H_2_1 f_Hou_138 d_Hou_said_12 ?_
  refine z_icmp_ge (t := 76) d_Hou_said_15 (by decide) (by first | omega | exact hw _ | exact hx _ _ | assumption) (by first | omega | exact hw _ | exact hx _ _ | assumption) (fun h15 => ?_) (fun h15 => ?_)
  · refine j_iload_n d_Hou_said_76 rfl ?_
    have ep : p.toNat = (K 0).toNat := by omega
    rw [ep]
    exact j_ireturn rfl d_Hou_said_77 (hQ _ _ _ _ _ hR)
  · have hsp := hrs p p0 (by omega)
    have h63 : 6 ≤ K (1 + p) → bq 63 (K (1 + p)) := fun h6 => by
      have hb := bit_63 ⟨(K (1 + p) - 6).toNat, by omega⟩
      dsimp only at hb
      rw [show (((K (1 + p) - 6).toNat : Nat) : Int) + 6 = K (1 + p) by omega] at hb
      exact hb
    refine j_aload_n d_Hou_said_18 rfl ?_
    refine gf_H_0_0 f_Hou_12 d_Hou_said_19 ?_
    refine gf_H_1_0 f_Hou_134 d_Hou_said_22 ?_
    refine gf_H_2_0 f_Hou_219 d_Hou_said_25 ?_
    refine j_iload_n d_Hou_said_28 rfl ?_
    refine al_H_3 d_Hou_said_29 (by omega) (by omega) ?_
    refine s_call1 d_Hou_said_30 c_Hou_231 (Nat.le_of_ble_eq_true rfl) (t_Row_isName (by omega) (fun h30 => ?_) (fun h30 => ?_))
    · refine z_if_eq (t := 70) d_Hou_said_33 (by decide) (by first | omega | exact hw _ | exact hx _ _ | assumption) (fun h => absurd h (by decide)) (fun _ => ?_)
      refine j_aload_n d_Hou_said_36 rfl ?_
      refine gf_H_0_0 f_Hou_12 d_Hou_said_37 ?_
      refine gf_H_1_0 f_Hou_134 d_Hou_said_40 ?_
      refine j_iload_n d_Hou_said_43 rfl ?_
      refine v_call1 d_Hou_said_44 c_Hou_225 rfl ⟨_, rfl, rfl⟩ (Nat.le_of_ble_eq_true rfl) (E_H_Row (fun Q2 kz => t_Row_depthOf hR p0 (by omega) (fun rl2 rp2 rm2 rd2 ro2 hR2 => kz _ _ _ _ _ _ _ _ rfl ?_)) rfl)
      refine z_if_ne (t := 70) d_Hou_said_47 (by decide) (by have := dpc_R (m := mt K) (p := p) p.toNat; unfold dp; omega) (fun h47 => ?_) (fun h47 => ?_)
      · refine z_iinc d_Hou_said_70 rfl (by decide) ?_
        show SJ _ _ _ _ [_, _, _] _ _ _ _ _
        refine j_goto (t := 4) d_Hou_said_73 (by decide) ?_
        first
        | (have e : sdF K (mt K) (p + 1).toNat = sdF K (mt K) p.toNat ||| (ii 1 <<< (ii (K (1 + p) - 6) &&& 31)) := sdF_p p0 ⟨by omega, h63 (by omega), h47⟩
           rw [← e]
           exact ih _ (by omega) (p + 1) _ _ _ _ _ rfl (by omega) (by omega) hR2)
        | (have e : sdF K (mt K) (p + 1).toNat = sdF K (mt K) p.toNat := by rw [sdF_n p0 (fun z => h47 z.2.2)]; exact Int32.or_zero
           rw [← e]
           exact ih _ (by omega) (p + 1) _ _ _ _ _ rfl (by omega) (by omega) hR2)
        | (have e : sdF K (mt K) (p + 1).toNat = sdF K (mt K) p.toNat := by rw [sdF_n p0 (fun z => h30 (by omega))]; exact Int32.or_zero
           rw [← e]
           exact ih _ (by omega) (p + 1) _ _ _ _ _ rfl (by omega) (by omega) hR)
      · refine j_iload_n d_Hou_said_50 rfl ?_
        refine z_iconst d_Hou_said_51 ?_
        refine j_aload_n d_Hou_said_52 rfl ?_
        refine gf_H_0_0 f_Hou_12 d_Hou_said_53 ?_
        refine gf_H_1_0 f_Hou_134 d_Hou_said_56 ?_
        refine gf_H_2_0 f_Hou_219 d_Hou_said_59 ?_
        refine j_iload_n d_Hou_said_62 rfl ?_
        refine al_H_3 d_Hou_said_63 (by omega) (by omega) ?_
        refine s_call1 d_Hou_said_64 c_Hou_234 (Nat.le_of_ble_eq_true rfl) (t_Row_personOf (by omega) ?_)
        rw [if_pos h30, hsp.1]
        refine j_ishl d_Hou_said_67 ?_
        refine j_ior d_Hou_said_68 ?_
        refine j_istore_n d_Hou_said_69 (by decide) ?_
        show SJ _ _ _ _ [_, _, _] _ _ _ _ _
        refine z_iinc d_Hou_said_70 rfl (by decide) ?_
        show SJ _ _ _ _ [_, _, _] _ _ _ _ _
        refine j_goto (t := 4) d_Hou_said_73 (by decide) ?_
        first
        | (have e : sdF K (mt K) (p + 1).toNat = sdF K (mt K) p.toNat ||| (ii 1 <<< (ii (K (1 + p) - 6) &&& 31)) := sdF_p p0 ⟨by omega, h63 (by omega), h47⟩
           rw [← e]
           exact ih _ (by omega) (p + 1) _ _ _ _ _ rfl (by omega) (by omega) hR2)
        | (have e : sdF K (mt K) (p + 1).toNat = sdF K (mt K) p.toNat := by rw [sdF_n p0 (fun z => h47 z.2.2)]; exact Int32.or_zero
           rw [← e]
           exact ih _ (by omega) (p + 1) _ _ _ _ _ rfl (by omega) (by omega) hR2)
        | (have e : sdF K (mt K) (p + 1).toNat = sdF K (mt K) p.toNat := by rw [sdF_n p0 (fun z => h30 (by omega))]; exact Int32.or_zero
           rw [← e]
           exact ih _ (by omega) (p + 1) _ _ _ _ _ rfl (by omega) (by omega) hR)
    · refine z_if_eq (t := 70) d_Hou_said_33 (by decide) (by first | omega | exact hw _ | exact hx _ _ | assumption) (fun _ => ?_) (fun h => absurd h (by decide))
      refine z_iinc d_Hou_said_70 rfl (by decide) ?_
      show SJ _ _ _ _ [_, _, _] _ _ _ _ _
      refine j_goto (t := 4) d_Hou_said_73 (by decide) ?_
      first
      | (have e : sdF K (mt K) (p + 1).toNat = sdF K (mt K) p.toNat ||| (ii 1 <<< (ii (K (1 + p) - 6) &&& 31)) := sdF_p p0 ⟨by omega, h63 (by omega), h47⟩
         rw [← e]
         exact ih _ (by omega) (p + 1) _ _ _ _ _ rfl (by omega) (by omega) hR2)
      | (have e : sdF K (mt K) (p + 1).toNat = sdF K (mt K) p.toNat := by rw [sdF_n p0 (fun z => h47 z.2.2)]; exact Int32.or_zero
         rw [← e]
         exact ih _ (by omega) (p + 1) _ _ _ _ _ rfl (by omega) (by omega) hR2)
      | (have e : sdF K (mt K) (p + 1).toNat = sdF K (mt K) p.toNat := by rw [sdF_n p0 (fun z => h30 (by omega))]; exact Int32.or_zero
         rw [← e]
         exact ih _ (by omega) (p + 1) _ _ _ _ _ rfl (by omega) (by omega) hR)
theorem t_Hou_said {g : Bool} {d : Nat} {Q : List xM → Option Value → Prop} {hdn bl sp su lc fo rn rl rp pz pn fl td br dz ez rdn rlt rbr fz : Int} {rs rm rd ro tm kp by_ tk ps pv pw sk wd dk dl dg rsk wr rf : Int → Int} {qI aI bI cI gI pI yI : Nat → Int} {qF aF bF cF gF eF fF pF yF nF : Nat → Int → Int} {pr be wy : Int → Int → Int} {lx qx ax bx cx : Nat → Option Nat} {ts : List TD} {K : Int → Int} (hS : SI K lc fo rn rl rp rs rm rd tm) (hL : LB K lx ts) (hQ : ∀ rl rp rm rd ro, RI K rn rl rp rs rm rd → Q (W_H hdn bl sp su lc fo rn rl rp pz pn fl td br dz ez rdn rlt rbr fz rs rm rd ro tm kp by_ tk ps pv pw sk wd dk dl dg rsk wr rf qI aI bI cI gI pI yI qF aF bF cF gF eF fF pF yF nF pr be wy lx qx ax bx cx ts) (some (.int (sd K))))  : CT g m_Hou_said (d + 5) [.ref 0] (W_H hdn bl sp su lc fo rn rl rp pz pn fl td br dz ez rdn rlt rbr fz rs rm rd ro tm kp by_ tk ps pv pw sk wd dk dl dg rsk wr rf qI aI bI cI gI pI yI qF aF bF cF gF eF fF pF yF nF pr be wy lx qx ax bx cx ts) 0 0 Q := by
  refine CT.of (by decide) (Nat.le_of_ble_eq_true rfl) ?_
  show SJ _ _ _ _ [some (.ref 0), none, none] [] _ _ _ _
  obtain ⟨hR, -, htm0, htm1, htm2, hlc, hfo⟩ := id hS
  obtain ⟨hrn, ⟨hn0, hn1⟩, hrs, hrp, hpu⟩ := id hR
  refine z_iconst d_Hou_said_0 ?_
  refine j_istore_n d_Hou_said_1 (by decide) ?_
  show SJ _ _ _ _ [_, _, _] _ _ _ _ _
  refine z_iconst d_Hou_said_2 ?_
  refine j_istore_n d_Hou_said_3 (by decide) ?_
  show SJ _ _ _ _ [_, _, _] _ _ _ _ _
  exact lp_hsd hS.2.1 hQ _ 0 _ _ _ _ _ rfl (by omega) (by omega) hR
theorem rwK_0 {K : Int → Int} {s : Int} : rwK K s 0 = K 0 + 1 := up_eq
theorem SI.app {K : Int → Int} {lc fo rn rl rp s : Int} {rs rm rd tm : Int → Int} (h : SI K lc fo rn rl rp rs rm rd tm) (s0 : 0 ≤ s) (s1 : s ≤ 11) (hn : K 0 < 20) : SI (rwK K s) lc fo (rn + 1) rl 0 (up (cpy rs rs rn (rn + 1) (rn - rn)) rn s) rm rd tm := by
  obtain ⟨⟨a1, a2, a3, -⟩, k, t0, -⟩ := id h
  refine h.to (by rw [rwK_0]; omega) (by omega) (fun j j0 j1 => ?_) (by unfold rwK; rw [up_ne (by omega), up_ne (by omega)]; exact ⟨t0, k.2.2.1⟩) ⟨rfl, rfl⟩ (fun j hj => by unfold rwK; rw [up_ne (by omega), up_ne (by omega)])
  unfold rwK
  rw [up_ne (show 1 + j ≠ 0 by omega)]
  by_cases c : j = rn
  · rw [c, up_eq, show 1 + rn = 1 + K 0 by omega, up_eq]
    exact ⟨rfl, s0, s1⟩
  · rw [up_ne c, up_ne (by omega), cpy_lo (by omega)]
    exact a3 j j0 (by omega)
theorem rwF_no {t : Int → Int} {m : Nat} {k n b : Int} {K : Int → Int} (h : K 0 = 20 ∨ ¬ (0 ≤ t k ∧ t k ≤ 11)) : rwF t (m + 1) k K n b = rwF t m (k + 1) K n (b + 1) := if_pos h
theorem rwF_yes {t : Int → Int} {m : Nat} {k n b : Int} {K : Int → Int} (h : ¬ (K 0 = 20 ∨ ¬ (0 ≤ t k ∧ t k ≤ 11))) : rwF t (m + 1) k K n b = rwF t m (k + 1) (rwK K (t k)) (n + 1) b := if_neg h
theorem lp_hrw {g : Bool} {d : Nat} {Q : List xM → Option Value → Prop} {hdn bl sp su lc fo pz pn fl td br dz ez rdn rlt rbr fz : Int} {tm kp by_ tk ps pv pw sk wd dk dl dg rsk wr rf : Int → Int} {qI aI bI cI gI pI yI : Nat → Int} {qF aF bF cF gF eF fF pF yF nF : Nat → Int → Int} {pr be wy : Int → Int → Int} {lx qx ax bx cx : Nat → Option Nat} {ts : List TD} {x : Int → Int} (hby : ∀ j, 0 ≤ j → j < 400 → by_ j = ub (x j) ∧ -128 ≤ x j ∧ x j ≤ 127) (z0_ : 0 ≤ pz) (z1_ : pz ≤ 400) {R : (Int → Int) × Int × Int} (hQ : ∀ K2 n2 b2, R = (K2, n2, b2) → ∀ (rn rl rp : Int) (rs rm rd ro : Int → Int), SI K2 lc fo rn rl rp rs rm rd tm → Q (W_H hdn b2 sp 0 lc fo rn rl rp 0 pn fl td br 0 ez rdn rlt rbr fz rs rm rd ro tm kp by_ tk ps pv pw sk wd dk dl dg rsk wr rf qI aI bI cI gI pI yI qF aF bF cF gF eF fF pF yF nF pr be wy lx qx ax bx cx ts) (some (.int (ii n2))))  : ∀ (nn : Nat) (k : Int) (n : Int) (K : Int → Int) (rn : Int) (rl : Int) (rp : Int) (rs : Int → Int) (rm : Int → Int) (rd : Int → Int) (ro : Int → Int), (pz - k).toNat = nn → 0 ≤ k → k ≤ pz → 0 ≤ n → n ≤ k → SI K lc fo rn rl rp rs rm rd tm → rwF x (pz - k).toNat k K n (k - n) = R → SJ g m_Hou_row (d + 3) 21 [some (.ref 0), some (.int (ii n)), some (.int (ii k))] [] (W_H hdn bl sp su lc fo rn rl rp pz pn fl td br dz ez rdn rlt rbr fz rs rm rd ro tm kp by_ tk ps pv pw sk wd dk dl dg rsk wr rf qI aI bI cI gI pI yI qF aF bF cF gF eF fF pF yF nF pr be wy lx qx ax bx cx ts) 0 0 Q := by
  intro nn
  induction nn using Nat.strongRecOn with
  | ind nn ih =>
  intro k n K rn rl rp rs rm rd ro hn k0 k1 n0 n1 hS hR_
  obtain ⟨hR, -, htm0, htm1, htm2, hlc, hfo⟩ := id hS
  obtain ⟨hrn, ⟨hn0, hn1⟩, hrs, hrp, hpu⟩ := id hR
  have hKR := hS.2.1
  refine j_iload_n d_Hou_row_21 rfl ?_
  refine j_aload_n d_Hou_row_22 rfl ?_
  refine gf_H_0_4 f_Hou_30 d_Hou_row_23 ?_
  refine gf_H_19_1 f_Hou_124 d_Hou_row_26 ?_
  refine z_icmp_ge (t := 99) d_Hou_row_29 (by decide) (by first | omega | exact hw _ | exact hx _ _ | assumption) (by first | omega | exact hw _ | exact hx _ _ | assumption) (fun h29 => ?_) (fun h29 => ?_)
  · have ek : k = pz := by omega
    rw [ek, show (pz - pz).toNat = 0 by omega] at hR_
    refine j_aload_n d_Hou_row_99 rfl ?_
    refine j_aload_n d_Hou_row_100 rfl ?_
    refine gf_H_0_4 f_Hou_30 d_Hou_row_101 ?_
    refine gf_H_19_1 f_Hou_124 d_Hou_row_104 ?_
    refine j_iload_n d_Hou_row_107 rfl ?_
    refine z_isub d_Hou_row_108 ?_
    refine pf_H_0_14 f_Hou_95 d_Hou_row_109 ?_
    refine j_aload_n d_Hou_row_112 rfl ?_
    refine gf_H_0_4 f_Hou_30 d_Hou_row_113 ?_
    refine z_iconst d_Hou_row_116 ?_
    refine pf_H_19_1 f_Hou_124 d_Hou_row_117 ?_
    refine j_aload_n d_Hou_row_120 rfl ?_
    refine gf_H_0_7 f_Hou_55 d_Hou_row_121 ?_
    refine v_call0 d_Hou_row_124 c_Hou_118 rfl ⟨_, rfl, rfl⟩ (Nat.le_of_ble_eq_true rfl) (E_H_D (fun Q2 kz => t_Dee_forget (kz _ _ _ _ _ _ _ _ _ _ _ _ _ _ _ _ _ rfl ?_)) rfl)
    refine j_aload_n d_Hou_row_127 rfl ?_
    refine j_iload_n d_Hou_row_128 rfl ?_
    refine v_call1 d_Hou_row_129 c_Hou_121 rfl ⟨_, rfl, rfl⟩ (Nat.le_of_ble_eq_true rfl) (t_Hou_grant  ?_)
    exact z_iret rfl d_Hou_row_132 rfl (hQ K n (pz - n) (by rw [← hR_]; rfl) _ _ _ _ _ _ _ hS)
  · have hbk := hby k k0 (by omega)
    have hub : (0 ≤ x k ∧ by_ k = x k) ∨ (x k < 0 ∧ by_ k = x k + 256) := by
      rw [hbk.1]
      unfold ub
      split <;> omega
    rw [show (pz - k).toNat = (pz - (k + 1)).toNat + 1 by omega] at hR_
    refine j_aload_n d_Hou_row_32 rfl ?_
    refine gf_H_0_4 f_Hou_30 d_Hou_row_33 ?_
    refine gf_H_19_0 f_Hou_131 d_Hou_row_36 ?_
    refine j_iload_n d_Hou_row_39 rfl ?_
    refine al_H_20 d_Hou_row_40 (by omega) (by omega) ?_
    refine z_bipush d_Hou_row_41 (by decide) ?_
    refine z_icmp_ge (t := 93) d_Hou_row_43 (by decide) (by first | omega | exact hw _ | exact hx _ _ | assumption) (by first | omega | exact hw _ | exact hx _ _ | assumption) (fun h43 => ?_) (fun h43 => ?_)
    · refine z_iinc d_Hou_row_93 rfl (by decide) ?_
      show SJ _ _ _ _ [_, _, _] _ _ _ _ _
      refine j_goto (t := 21) d_Hou_row_96 (by decide) ?_
      first
      | (rw [rwF_yes (by omega)] at hR_
         rw [show by_ k = x k by omega]
         exact ih _ (by omega) (k + 1) (n + 1) (rwK K (x k)) _ _ _ _ _ _ _ rfl (by omega) (by omega) (by omega) (by omega) (hS.app (by omega) (by omega) (by omega)) (by rw [show k + 1 - (n + 1) = k - n by omega]; exact hR_))
      | (rw [rwF_no (by omega)] at hR_
         exact ih _ (by omega) (k + 1) n K _ _ _ _ _ _ _ rfl (by omega) (by omega) (by omega) (by omega) hS (by rw [show k + 1 - n = k - n + 1 by omega]; exact hR_))
    · refine j_aload_n d_Hou_row_46 rfl ?_
      refine gf_H_0_0 f_Hou_12 d_Hou_row_47 ?_
      refine gf_H_1_0 f_Hou_134 d_Hou_row_50 ?_
      refine gf_H_2_1 f_Hou_138 d_Hou_row_53 ?_
      refine z_bipush d_Hou_row_56 (by decide) ?_
      refine z_icmp_ge (t := 93) d_Hou_row_58 (by decide) (by first | omega | exact hw _ | exact hx _ _ | assumption) (by first | omega | exact hw _ | exact hx _ _ | assumption) (fun h58 => ?_) (fun h58 => ?_)
      · refine z_iinc d_Hou_row_93 rfl (by decide) ?_
        show SJ _ _ _ _ [_, _, _] _ _ _ _ _
        refine j_goto (t := 21) d_Hou_row_96 (by decide) ?_
        first
        | (rw [rwF_yes (by omega)] at hR_
           rw [show by_ k = x k by omega]
           exact ih _ (by omega) (k + 1) (n + 1) (rwK K (x k)) _ _ _ _ _ _ _ rfl (by omega) (by omega) (by omega) (by omega) (hS.app (by omega) (by omega) (by omega)) (by rw [show k + 1 - (n + 1) = k - n by omega]; exact hR_))
        | (rw [rwF_no (by omega)] at hR_
           exact ih _ (by omega) (k + 1) n K _ _ _ _ _ _ _ rfl (by omega) (by omega) (by omega) (by omega) hS (by rw [show k + 1 - n = k - n + 1 by omega]; exact hR_))
      · refine j_aload_n d_Hou_row_61 rfl ?_
        refine gf_H_0_0 f_Hou_12 d_Hou_row_62 ?_
        refine gf_H_1_0 f_Hou_134 d_Hou_row_65 ?_
        refine j_aload_n d_Hou_row_68 rfl ?_
        refine gf_H_0_4 f_Hou_30 d_Hou_row_69 ?_
        refine gf_H_19_0 f_Hou_131 d_Hou_row_72 ?_
        refine j_iload_n d_Hou_row_75 rfl ?_
        refine al_H_20 d_Hou_row_76 (by omega) (by omega) ?_
        refine j_aload_n d_Hou_row_77 rfl ?_
        refine gf_H_0_0 f_Hou_12 d_Hou_row_78 ?_
        refine gf_H_1_0 f_Hou_134 d_Hou_row_81 ?_
        refine gf_H_2_1 f_Hou_138 d_Hou_row_84 ?_
        refine v_call2 d_Hou_row_87 c_Hou_143 rfl ⟨_, rfl, rfl⟩ (Nat.le_of_ble_eq_true rfl) (E_H_Row (fun Q2 kz => t_Row_insert (by omega) hn0 hn1 (fun h87 => kz _ _ _ _ _ _ _ _ rfl ?_) (fun h87 => kz _ _ _ _ _ _ _ _ rfl (by exfalso; omega))) rfl)
        refine z_iinc d_Hou_row_90 rfl (by decide) ?_
        show SJ _ _ _ _ [_, _, _] _ _ _ _ _
        refine z_iinc d_Hou_row_93 rfl (by decide) ?_
        show SJ _ _ _ _ [_, _, _] _ _ _ _ _
        refine j_goto (t := 21) d_Hou_row_96 (by decide) ?_
        first
        | (rw [rwF_yes (by omega)] at hR_
           rw [show by_ k = x k by omega]
           exact ih _ (by omega) (k + 1) (n + 1) (rwK K (x k)) _ _ _ _ _ _ _ rfl (by omega) (by omega) (by omega) (by omega) (hS.app (by omega) (by omega) (by omega)) (by rw [show k + 1 - (n + 1) = k - n by omega]; exact hR_))
        | (rw [rwF_no (by omega)] at hR_
           exact ih _ (by omega) (k + 1) n K _ _ _ _ _ _ _ rfl (by omega) (by omega) (by omega) (by omega) hS (by rw [show k + 1 - n = k - n + 1 by omega]; exact hR_))
theorem t_Hou_row {g : Bool} {d : Nat} {Q : List xM → Option Value → Prop} {hdn bl sp su lc fo rn rl rp pz pn fl td br dz ez rdn rlt rbr fz : Int} {rs rm rd ro tm kp by_ tk ps pv pw sk wd dk dl dg rsk wr rf : Int → Int} {qI aI bI cI gI pI yI : Nat → Int} {qF aF bF cF gF eF fF pF yF nF : Nat → Int → Int} {pr be wy : Int → Int → Int} {lx qx ax bx cx : Nat → Option Nat} {ts : List TD} {K : Int → Int} (hS : SI K lc fo rn rl rp rs rm rd tm) (hL : LB K lx ts) {x : Int → Int} (hby : ∀ j, 0 ≤ j → j < 400 → by_ j = ub (x j) ∧ -128 ≤ x j ∧ x j ≤ 127) (z0_ : 0 ≤ pz) (z1_ : pz ≤ 400) (hno : pz = 0 → Q (W_H hdn bl sp (-6) lc fo rn rl rp pz pn fl td br dz ez rdn rlt rbr fz rs rm rd ro tm kp by_ tk ps pv pw sk wd dk dl dg rsk wr (up rf (rix (-6)) (rf (rix (-6)) + 1)) qI aI bI cI gI pI yI qF aF bF cF gF eF fF pF yF nF pr be wy lx qx ax bx cx ts) (some (.int (ii (-6))))) (hQ : pz ≠ 0 → ∀ (rn rl rp : Int) (rs rm rd ro : Int → Int), SI (rwF x pz.toNat 0 K 0 0).1 lc fo rn rl rp rs rm rd tm → Q (W_H hdn (rwF x pz.toNat 0 K 0 0).2.2 sp 0 lc fo rn rl rp 0 pn fl td br 0 ez rdn rlt rbr fz rs rm rd ro tm kp by_ tk ps pv pw sk wd dk dl dg rsk wr rf qI aI bI cI gI pI yI qF aF bF cF gF eF fF pF yF nF pr be wy lx qx ax bx cx ts) (some (.int (ii (rwF x pz.toNat 0 K 0 0).2.1))))  : CT g m_Hou_row (d + 3) [.ref 0] (W_H hdn bl sp su lc fo rn rl rp pz pn fl td br dz ez rdn rlt rbr fz rs rm rd ro tm kp by_ tk ps pv pw sk wd dk dl dg rsk wr rf qI aI bI cI gI pI yI qF aF bF cF gF eF fF pF yF nF pr be wy lx qx ax bx cx ts) 0 0 Q := by
  refine CT.of (by decide) (Nat.le_of_ble_eq_true rfl) ?_
  show SJ _ _ _ _ [some (.ref 0), none, none] [] _ _ _ _
  refine j_aload_n d_Hou_row_0 rfl ?_
  refine gf_H_0_4 f_Hou_30 d_Hou_row_1 ?_
  refine gf_H_19_1 f_Hou_124 d_Hou_row_4 ?_
  refine z_if_ne (t := 17) d_Hou_row_7 (by decide) (by first | omega | exact hw _ | exact hx _ _ | assumption) (fun h7 => ?_) (fun h7 => ?_)
  · refine z_iconst d_Hou_row_17 ?_
    refine j_istore_n d_Hou_row_18 (by decide) ?_
    show SJ _ _ _ _ [_, _, _] _ _ _ _ _
    refine z_iconst d_Hou_row_19 ?_
    refine j_istore_n d_Hou_row_20 (by decide) ?_
    show SJ _ _ _ _ [_, _, _] _ _ _ _ _
    exact lp_hrw hby z0_ z1_ (R := rwF x pz.toNat 0 K 0 0) (fun K2 n2 b2 e rn rl rp rs rm rd ro h => by have h2 := hQ (by omega) rn rl rp rs rm rd ro (by rw [e]; exact h); rw [e] at h2; exact h2) _ 0 0 K _ _ _ _ _ _ _ rfl (by omega) (by omega) (by omega) (by omega) hS (by rw [show pz - 0 = pz by omega]; rfl)
  · refine j_aload_n d_Hou_row_10 rfl ?_
    refine z_bipush d_Hou_row_11 (by decide) ?_
    refine v_call1 d_Hou_row_13 c_Hou_111 rfl ⟨_, rfl, rfl⟩ (Nat.le_of_ble_eq_true rfl) (t_Hou_refuse (by omega) (by omega) ?_)
    exact z_iret rfl d_Hou_row_16 rfl (hno (by omega))
