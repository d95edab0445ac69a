theorem rO_148 {g : Bool} {d : Nat} {Q : List xM → Option Value → Prop} {hdn bl sp su lc fo rn rl rp pz pn fl td br dz ez rdn rlt rbr fz : Int} {rs rm rd ro tm kp by_ tk ps pv pw sk wd dk dl dg rsk wr rf : Int → Int} {qI aI bI cI gI pI yI : Nat → Int} {qF aF bF cF gF eF fF pF yF nF : Nat → Int → Int} {pr be wy : Int → Int → Int} {lx qx ax bx cx : Nat → Option Nat} {ts : List TD} {K Z : Int → Int} (hS : SI K lc fo rn rl rp rs rm rd tm) (hL : LB K lx ts) (hU : UR K Z dz dk dl dg) {q : CXC} {c : Int} (c0 : 0 ≤ c) (c1 : c < 12) (hkn : (q.1 = 21 ∧ gF 0 c = 0) ∨ (q.1 = 23 ∧ gF 0 c = 1) ∨ (q.1 = 24 ∧ gF 0 c = 2) ∨ (q.1 = 26 ∧ gF 0 c = 3)) (e0 : 0 ≤ rdn) (e1 : rdn ≤ 900) (hT : tstV q (ow K rdn rlt) = some 1) {v1 v2 : Int} (r1_ : rgo v1) (r2_ : rgo v2) (h1 : su1 q (ow K rdn rlt) = some v1) (h2 : su2 q (ow K rdn rlt) = some v2) (hok : ∀ T : OS, onO q (K, Z, dz, rdn, rlt) = some T → ∀ (rn rl rp td br rbr : Int) (rs rm rd ro tm sk wd dk dl dg rsk wr : Int → Int), SI T.1 lc fo rn rl rp rs rm rd tm → UR T.1 T.2.1 T.2.2.1 dk dl dg → (∀ j, 22 ≤ j → T.1 j = K j) → Q (W_H hdn bl sp su lc fo rn rl rp pz pn fl td br T.2.2.1 ez T.2.2.2.1 T.2.2.2.2 rbr fz rs rm rd ro tm kp by_ tk ps pv pw sk wd dk dl dg rsk wr rf qI aI bI cI gI pI yI qF aF bF cF gF eF fF pF yF nF pr be wy lx qx ax bx cx ts) (some (.int (ii 1)))) (her : onO q (K, Z, dz, rdn, rlt) = none → ∀ (dz rdn rlt : Int) (rn rl rp td br rbr : Int) (rs rm rd ro tm sk wd dk dl dg rsk wr : Int → Int), Q (W_H hdn bl sp su lc fo rn rl rp pz pn fl td br dz ez rdn rlt rbr fz rs rm rd ro tm kp by_ tk ps pv pw sk wd dk dl dg rsk wr rf qI aI bI cI gI pI yI qF aF bF cF gF eF fF pF yF nF pr be wy lx qx ax bx cx ts) (some (.int (ii 0))))  : SJ g m_Run_runOnce (d + 5) 148 [some (.ref 46), some (.ref 26), some (.int (ii c)), some (.int (ii v1)), some (.int (ii v2)), none] [] (W_H hdn bl sp su lc fo rn rl rp pz pn fl td br dz ez rdn rlt rbr fz rs rm rd ro tm kp by_ tk ps pv pw sk wd dk dl dg rsk wr rf qI aI bI cI gI pI yI qF aF bF cF gF eF fF pF yF nF pr be wy lx qx ax bx cx ts) 0 0 Q := by
  have hKR := hS.2.1
  have hKK := hL.kok hKR
  have hLX := hL.lxE hKR
  have hn20 := hKR.1
  have hu16 := hU.1
  refine j_aload_n d_Run_runOnce_148 rfl ?_
  refine gf_H_26_0 f_Run_94 d_Run_runOnce_149 ?_
  refine j_iload_n d_Run_runOnce_152 rfl ?_
  refine al_H_27 d_Run_runOnce_153 (by omega) (by omega) ?_
  refine z_case (0) (fun h154_0 => ?_) (fun h154_0 => ?_)
  · refine z_tabIn (t := 180) (o := 26) d_Run_runOnce_154 (by first | omega | exact hw _ | exact hx _ _ | assumption) (by omega) (by omega) (by rw [h154_0]; rfl) (by decide) ?_
    have hq1 : q.1 = 21 := by omega
    have hrg := puR_Q hKK v1 v2
    refine j_aload_n d_Run_runOnce_180 rfl ?_
    refine gf_H_46_2 f_Run_39 d_Run_runOnce_181 ?_
    refine j_iload_n d_Run_runOnce_184 rfl ?_
    refine j_iload d_Run_runOnce_185 rfl ?_
    refine v_call2 d_Run_runOnce_187 c_Run_97 rfl ⟨_, rfl, rfl⟩ (Nat.le_of_ble_eq_true rfl) (E_H_D (fun Q2 kz => t_Dee_putSign hS hLX hu16.1 hu16.2 (fun s p s0 s1 p0 p1 => hL.tlR hKR s p s0 s1 p0 p1) (by omega) (by omega) (fun hno1 tdz brz skz wdz => kz _ _ _ _ _ _ _ _ _ _ _ _ _ _ _ _ _ rfl ?_) (fun hy1 hy2 hy3 hy4 hy5 tdz brz skz wdz => kz _ _ _ _ _ _ _ _ _ _ _ _ _ _ _ _ _ rfl ?_)) rfl)
    · first
      | have hob := ob_put (dn := rdn) (lt := rlt) hS hU hq1 hy1 hy2 hy3 hy4
      | have hob := ob_put_no (Z := Z) (dz := dz) (dn := rdn) (lt := rlt) hn20.2 hq1 hno1
      refine j_istore d_Run_runOnce_190 (by decide) ?_
      show SJ _ _ _ _ [_, _, _, _, _, _] _ _ _ _ _
      refine j_aload_n d_Run_runOnce_192 rfl ?_
      refine j_iload d_Run_runOnce_193 rfl ?_
      refine pf_H_46_7 f_Run_33 d_Run_runOnce_195 ?_
      refine j_goto (t := 238) d_Run_runOnce_198 (by decide) ?_
      refine j_aload_n d_Run_runOnce_238 rfl ?_
      refine j_dup d_Run_runOnce_239 rfl ?_
      refine gf_H_46_0 f_Run_9 d_Run_runOnce_240 ?_
      refine z_iconst d_Run_runOnce_243 ?_
      refine z_iadd d_Run_runOnce_244 ?_
      refine pf_H_46_0 f_Run_9 d_Run_runOnce_245 ?_
      refine j_iload d_Run_runOnce_248 rfl ?_
      refine z_if_lt (t := 257) d_Run_runOnce_250 (by decide) (by first | omega | exact hw _ | exact hx _ _ | assumption) (fun h250 => ?_) (fun h250 => ?_)
      · refine z_iconst d_Run_runOnce_257 ?_
        first
        | exact z_zreturn rfl (Or.inl rfl) d_Run_runOnce_258 (her (onO_fails hT h1 h2 hob) _ _ _ _ _ _ _ _ _ _ _ _ _ _ _ _ _ _ _ _ _)
        | (exfalso; omega)
      · refine z_iconst d_Run_runOnce_253 ?_
        refine j_goto (t := 258) d_Run_runOnce_254 (by decide) ?_
        first
        | exact z_zreturn rfl (Or.inr rfl) d_Run_runOnce_258 (hok _ (onO_yes hT h1 h2 hob.1) _ _ _ _ _ _ _ _ _ _ _ _ _ _ _ _ _ _ hob.2.1 hob.2.2.1 hob.2.2.2)
        | (exfalso; omega)
    · first
      | have hob := ob_put (dn := rdn) (lt := rlt) hS hU hq1 hy1 hy2 hy3 hy4
      | have hob := ob_put_no (Z := Z) (dz := dz) (dn := rdn) (lt := rlt) hn20.2 hq1 hno1
      refine j_istore d_Run_runOnce_190 (by decide) ?_
      show SJ _ _ _ _ [_, _, _, _, _, _] _ _ _ _ _
      refine j_aload_n d_Run_runOnce_192 rfl ?_
      refine j_iload d_Run_runOnce_193 rfl ?_
      refine pf_H_46_7 f_Run_33 d_Run_runOnce_195 ?_
      refine j_goto (t := 238) d_Run_runOnce_198 (by decide) ?_
      refine j_aload_n d_Run_runOnce_238 rfl ?_
      refine j_dup d_Run_runOnce_239 rfl ?_
      refine gf_H_46_0 f_Run_9 d_Run_runOnce_240 ?_
      refine z_iconst d_Run_runOnce_243 ?_
      refine z_iadd d_Run_runOnce_244 ?_
      refine pf_H_46_0 f_Run_9 d_Run_runOnce_245 ?_
      refine j_iload d_Run_runOnce_248 rfl ?_
      refine z_if_lt (t := 257) d_Run_runOnce_250 (by decide) (by first | omega | exact hw _ | exact hx _ _ | assumption) (fun h250 => ?_) (fun h250 => ?_)
      · refine z_iconst d_Run_runOnce_257 ?_
        first
        | exact z_zreturn rfl (Or.inl rfl) d_Run_runOnce_258 (her (onO_fails hT h1 h2 hob) _ _ _ _ _ _ _ _ _ _ _ _ _ _ _ _ _ _ _ _ _)
        | (exfalso; omega)
      · refine z_iconst d_Run_runOnce_253 ?_
        refine j_goto (t := 258) d_Run_runOnce_254 (by decide) ?_
        first
        | exact z_zreturn rfl (Or.inr rfl) d_Run_runOnce_258 (hok _ (onO_yes hT h1 h2 hob.1) _ _ _ _ _ _ _ _ _ _ _ _ _ _ _ _ _ _ hob.2.1 hob.2.2.1 hob.2.2.2)
        | (exfalso; omega)
  refine z_case (1) (fun h154_1 => ?_) (fun h154_1 => ?_)
  · refine z_tabIn (t := 201) (o := 47) d_Run_runOnce_154 (by first | omega | exact hw _ | exact hx _ _ | assumption) (by omega) (by omega) (by rw [h154_1]; rfl) (by decide) ?_
    have hq1 : q.1 = 23 := by omega
    have hrg := cuR_Q hKK v1
    refine j_aload_n d_Run_runOnce_201 rfl ?_
    refine gf_H_46_2 f_Run_39 d_Run_runOnce_202 ?_
    refine j_iload_n d_Run_runOnce_205 rfl ?_
    refine v_call1 d_Run_runOnce_206 c_Run_101 rfl ⟨_, rfl, rfl⟩ (Nat.le_of_ble_eq_true rfl) (E_H_D (fun Q2 kz => t_Dee_cutSign hS hLX hu16.1 hu16.2 (fun s p s0 s1 p0 p1 => hL.tlR hKR s p s0 s1 p0 p1) (by omega) (fun hno1 tdz brz skz wdz => kz _ _ _ _ _ _ _ _ _ _ _ _ _ _ _ _ _ rfl ?_) (fun hy1 hy2 tdz brz skz wdz => kz _ _ _ _ _ _ _ _ _ _ _ _ _ _ _ _ _ rfl ?_)) rfl)
    · first
      | have hob := ob_cut (dn := rdn) (lt := rlt) (p := v2) hS hU hq1 hy1 hy2
      | have hob := ob_cut_no (Z := Z) (dz := dz) (dn := rdn) (lt := rlt) (p := v2) hn20.2 hq1 hno1
      refine j_istore d_Run_runOnce_209 (by decide) ?_
      show SJ _ _ _ _ [_, _, _, _, _, _] _ _ _ _ _
      refine j_goto (t := 238) d_Run_runOnce_211 (by decide) ?_
      refine j_aload_n d_Run_runOnce_238 rfl ?_
      refine j_dup d_Run_runOnce_239 rfl ?_
      refine gf_H_46_0 f_Run_9 d_Run_runOnce_240 ?_
      refine z_iconst d_Run_runOnce_243 ?_
      refine z_iadd d_Run_runOnce_244 ?_
      refine pf_H_46_0 f_Run_9 d_Run_runOnce_245 ?_
      refine j_iload d_Run_runOnce_248 rfl ?_
      refine z_if_lt (t := 257) d_Run_runOnce_250 (by decide) (by first | omega | exact hw _ | exact hx _ _ | assumption) (fun h250 => ?_) (fun h250 => ?_)
      · refine z_iconst d_Run_runOnce_257 ?_
        first
        | exact z_zreturn rfl (Or.inl rfl) d_Run_runOnce_258 (her (onO_fails hT h1 h2 hob) _ _ _ _ _ _ _ _ _ _ _ _ _ _ _ _ _ _ _ _ _)
        | (exfalso; omega)
      · refine z_iconst d_Run_runOnce_253 ?_
        refine j_goto (t := 258) d_Run_runOnce_254 (by decide) ?_
        first
        | exact z_zreturn rfl (Or.inr rfl) d_Run_runOnce_258 (hok _ (onO_yes hT h1 h2 hob.1) _ _ _ _ _ _ _ _ _ _ _ _ _ _ _ _ _ _ hob.2.1 hob.2.2.1 hob.2.2.2)
        | (exfalso; omega)
    · first
      | have hob := ob_cut (dn := rdn) (lt := rlt) (p := v2) hS hU hq1 hy1 hy2
      | have hob := ob_cut_no (Z := Z) (dz := dz) (dn := rdn) (lt := rlt) (p := v2) hn20.2 hq1 hno1
      refine j_istore d_Run_runOnce_209 (by decide) ?_
      show SJ _ _ _ _ [_, _, _, _, _, _] _ _ _ _ _
      refine j_goto (t := 238) d_Run_runOnce_211 (by decide) ?_
      refine j_aload_n d_Run_runOnce_238 rfl ?_
      refine j_dup d_Run_runOnce_239 rfl ?_
      refine gf_H_46_0 f_Run_9 d_Run_runOnce_240 ?_
      refine z_iconst d_Run_runOnce_243 ?_
      refine z_iadd d_Run_runOnce_244 ?_
      refine pf_H_46_0 f_Run_9 d_Run_runOnce_245 ?_
      refine j_iload d_Run_runOnce_248 rfl ?_
      refine z_if_lt (t := 257) d_Run_runOnce_250 (by decide) (by first | omega | exact hw _ | exact hx _ _ | assumption) (fun h250 => ?_) (fun h250 => ?_)
      · refine z_iconst d_Run_runOnce_257 ?_
        first
        | exact z_zreturn rfl (Or.inl rfl) d_Run_runOnce_258 (her (onO_fails hT h1 h2 hob) _ _ _ _ _ _ _ _ _ _ _ _ _ _ _ _ _ _ _ _ _)
        | (exfalso; omega)
      · refine z_iconst d_Run_runOnce_253 ?_
        refine j_goto (t := 258) d_Run_runOnce_254 (by decide) ?_
        first
        | exact z_zreturn rfl (Or.inr rfl) d_Run_runOnce_258 (hok _ (onO_yes hT h1 h2 hob.1) _ _ _ _ _ _ _ _ _ _ _ _ _ _ _ _ _ _ hob.2.1 hob.2.2.1 hob.2.2.2)
        | (exfalso; omega)
  refine z_case (2) (fun h154_2 => ?_) (fun h154_2 => ?_)
  · refine z_tabIn (t := 214) (o := 60) d_Run_runOnce_154 (by first | omega | exact hw _ | exact hx _ _ | assumption) (by omega) (by omega) (by rw [h154_2]; rfl) (by decide) ?_
    have hq1 : q.1 = 24 := by omega
    have hrg := tuR_Q hKK v1 v2
    refine j_aload_n d_Run_runOnce_214 rfl ?_
    refine gf_H_46_2 f_Run_39 d_Run_runOnce_215 ?_
    refine j_iload_n d_Run_runOnce_218 rfl ?_
    refine j_iload d_Run_runOnce_219 rfl ?_
    refine v_call2 d_Run_runOnce_221 c_Run_105 rfl ⟨_, rfl, rfl⟩ (Nat.le_of_ble_eq_true rfl) (E_H_D (fun Q2 kz => t_Dee_turnSign hS hLX hu16.1 hu16.2 (by omega) (by omega) (fun hno1 tdz brz skz wdz => kz _ _ _ _ _ _ _ _ _ _ _ _ _ _ _ _ _ rfl ?_) (fun hy1 hy2 hy3 tdz brz skz wdz => kz _ _ _ _ _ _ _ _ _ _ _ _ _ _ _ _ _ rfl ?_)) rfl)
    · first
      | have hob := ob_turn (dn := rdn) (lt := rlt) hS hU hq1 hy1 hy2 hy3
      | have hob := ob_turn_no (Z := Z) (dz := dz) (dn := rdn) (lt := rlt) hn20.2 hq1 hno1
      refine j_istore d_Run_runOnce_224 (by decide) ?_
      show SJ _ _ _ _ [_, _, _, _, _, _] _ _ _ _ _
      refine j_goto (t := 238) d_Run_runOnce_226 (by decide) ?_
      refine j_aload_n d_Run_runOnce_238 rfl ?_
      refine j_dup d_Run_runOnce_239 rfl ?_
      refine gf_H_46_0 f_Run_9 d_Run_runOnce_240 ?_
      refine z_iconst d_Run_runOnce_243 ?_
      refine z_iadd d_Run_runOnce_244 ?_
      refine pf_H_46_0 f_Run_9 d_Run_runOnce_245 ?_
      refine j_iload d_Run_runOnce_248 rfl ?_
      refine z_if_lt (t := 257) d_Run_runOnce_250 (by decide) (by first | omega | exact hw _ | exact hx _ _ | assumption) (fun h250 => ?_) (fun h250 => ?_)
      · refine z_iconst d_Run_runOnce_257 ?_
        first
        | exact z_zreturn rfl (Or.inl rfl) d_Run_runOnce_258 (her (onO_fails hT h1 h2 hob) _ _ _ _ _ _ _ _ _ _ _ _ _ _ _ _ _ _ _ _ _)
        | (exfalso; omega)
      · refine z_iconst d_Run_runOnce_253 ?_
        refine j_goto (t := 258) d_Run_runOnce_254 (by decide) ?_
        first
        | exact z_zreturn rfl (Or.inr rfl) d_Run_runOnce_258 (hok _ (onO_yes hT h1 h2 hob.1) _ _ _ _ _ _ _ _ _ _ _ _ _ _ _ _ _ _ hob.2.1 hob.2.2.1 hob.2.2.2)
        | (exfalso; omega)
    · first
      | have hob := ob_turn (dn := rdn) (lt := rlt) hS hU hq1 hy1 hy2 hy3
      | have hob := ob_turn_no (Z := Z) (dz := dz) (dn := rdn) (lt := rlt) hn20.2 hq1 hno1
      refine j_istore d_Run_runOnce_224 (by decide) ?_
      show SJ _ _ _ _ [_, _, _, _, _, _] _ _ _ _ _
      refine j_goto (t := 238) d_Run_runOnce_226 (by decide) ?_
      refine j_aload_n d_Run_runOnce_238 rfl ?_
      refine j_dup d_Run_runOnce_239 rfl ?_
      refine gf_H_46_0 f_Run_9 d_Run_runOnce_240 ?_
      refine z_iconst d_Run_runOnce_243 ?_
      refine z_iadd d_Run_runOnce_244 ?_
      refine pf_H_46_0 f_Run_9 d_Run_runOnce_245 ?_
      refine j_iload d_Run_runOnce_248 rfl ?_
      refine z_if_lt (t := 257) d_Run_runOnce_250 (by decide) (by first | omega | exact hw _ | exact hx _ _ | assumption) (fun h250 => ?_) (fun h250 => ?_)
      · refine z_iconst d_Run_runOnce_257 ?_
        first
        | exact z_zreturn rfl (Or.inl rfl) d_Run_runOnce_258 (her (onO_fails hT h1 h2 hob) _ _ _ _ _ _ _ _ _ _ _ _ _ _ _ _ _ _ _ _ _)
        | (exfalso; omega)
      · refine z_iconst d_Run_runOnce_253 ?_
        refine j_goto (t := 258) d_Run_runOnce_254 (by decide) ?_
        first
        | exact z_zreturn rfl (Or.inr rfl) d_Run_runOnce_258 (hok _ (onO_yes hT h1 h2 hob.1) _ _ _ _ _ _ _ _ _ _ _ _ _ _ _ _ _ _ hob.2.1 hob.2.2.1 hob.2.2.2)
        | (exfalso; omega)
  refine z_tabOut (t := 229) d_Run_runOnce_154 (by first | omega | exact hw _ | exact hx _ _ | assumption) (by omega) (by decide) ?_
  have hq1 : q.1 = 26 := by omega
  have hrg := hKR.2.2.1
  refine j_aload_n d_Run_runOnce_229 rfl ?_
  refine gf_H_46_2 f_Run_39 d_Run_runOnce_230 ?_
  refine v_call0 d_Run_runOnce_233 c_Run_108 rfl ⟨_, rfl, rfl⟩ (Nat.le_of_ble_eq_true rfl) (E_H_D (fun Q2 kz => t_Dee_passPage hS hu16.1 hu16.2 (fun hno1 => kz _ _ _ _ _ _ _ _ _ _ _ _ _ _ _ _ _ rfl ?_) (fun hy1 => kz _ _ _ _ _ _ _ _ _ _ _ _ _ _ _ _ _ rfl ?_)) rfl)
  · first
    | have hob := ob_pass (dn := rdn) (lt := rlt) (s := v1) (p := v2) hS hU hq1 hy1
    | have hob := ob_pass_no (Z := Z) (dz := dz) (dn := rdn) (lt := rlt) (s := v1) (p := v2) hq1 hno1
    refine j_istore d_Run_runOnce_236 (by decide) ?_
    show SJ _ _ _ _ [_, _, _, _, _, _] _ _ _ _ _
    refine j_aload_n d_Run_runOnce_238 rfl ?_
    refine j_dup d_Run_runOnce_239 rfl ?_
    refine gf_H_46_0 f_Run_9 d_Run_runOnce_240 ?_
    refine z_iconst d_Run_runOnce_243 ?_
    refine z_iadd d_Run_runOnce_244 ?_
    refine pf_H_46_0 f_Run_9 d_Run_runOnce_245 ?_
    refine j_iload d_Run_runOnce_248 rfl ?_
    refine z_if_lt (t := 257) d_Run_runOnce_250 (by decide) (by first | omega | exact hw _ | exact hx _ _ | assumption) (fun _ => ?_) (fun h => absurd h (by decide))
    refine z_iconst d_Run_runOnce_257 ?_
    first
    | exact z_zreturn rfl (Or.inl rfl) d_Run_runOnce_258 (her (onO_fails hT h1 h2 hob) _ _ _ _ _ _ _ _ _ _ _ _ _ _ _ _ _ _ _ _ _)
    | (exfalso; omega)
  · first
    | have hob := ob_pass (dn := rdn) (lt := rlt) (s := v1) (p := v2) hS hU hq1 hy1
    | have hob := ob_pass_no (Z := Z) (dz := dz) (dn := rdn) (lt := rlt) (s := v1) (p := v2) hq1 hno1
    refine j_istore d_Run_runOnce_236 (by decide) ?_
    show SJ _ _ _ _ [_, _, _, _, _, _] _ _ _ _ _
    refine j_aload_n d_Run_runOnce_238 rfl ?_
    refine j_dup d_Run_runOnce_239 rfl ?_
    refine gf_H_46_0 f_Run_9 d_Run_runOnce_240 ?_
    refine z_iconst d_Run_runOnce_243 ?_
    refine z_iadd d_Run_runOnce_244 ?_
    refine pf_H_46_0 f_Run_9 d_Run_runOnce_245 ?_
    refine j_iload d_Run_runOnce_248 rfl ?_
    refine z_if_lt (t := 257) d_Run_runOnce_250 (by decide) (by first | omega | exact hw _ | exact hx _ _ | assumption) (fun h250 => ?_) (fun h250 => ?_)
    · refine z_iconst d_Run_runOnce_257 ?_
      first
      | exact z_zreturn rfl (Or.inl rfl) d_Run_runOnce_258 (her (onO_fails hT h1 h2 hob) _ _ _ _ _ _ _ _ _ _ _ _ _ _ _ _ _ _ _ _ _)
      | (exfalso; omega)
    · refine z_iconst d_Run_runOnce_253 ?_
      refine j_goto (t := 258) d_Run_runOnce_254 (by decide) ?_
      first
      | exact z_zreturn rfl (Or.inr rfl) d_Run_runOnce_258 (hok _ (onO_yes hT h1 h2 hob.1) _ _ _ _ _ _ _ _ _ _ _ _ _ _ _ _ _ _ hob.2.1 hob.2.2.1 hob.2.2.2)
      | (exfalso; omega)
theorem rO_92 {g : Bool} {d : Nat} {Q : List xM → Option Value → Prop} {hdn bl sp su lc fo rn rl rp pz pn fl td br dz ez rdn rlt rbr fz : Int} {rs rm rd ro tm kp by_ tk ps pv pw sk wd dk dl dg rsk wr rf : Int → Int} {qI aI bI cI gI pI yI : Nat → Int} {qF aF bF cF gF eF fF pF yF nF : Nat → Int → Int} {pr be wy : Int → Int → Int} {lx qx ax bx cx : Nat → Option Nat} {ts : List TD} {K Z : Int → Int} (hS : SI K lc fo rn rl rp rs rm rd tm) (hL : LB K lx ts) (hU : UR K Z dz dk dl dg) {q : CXC} {c : Int} (c0 : 0 ≤ c) (c1 : c < 12) (hkn : (q.1 = 21 ∧ gF 0 c = 0) ∨ (q.1 = 23 ∧ gF 0 c = 1) ∨ (q.1 = 24 ∧ gF 0 c = 2) ∨ (q.1 = 26 ∧ gF 0 c = 3)) (e0 : 0 ≤ rdn) (e1 : rdn ≤ 900) (hT : tstV q (ow K rdn rlt) = some 1) (z0_ : 0 ≤ gI 6) (z1_ : gI 6 ≤ 436) (hst : ∀ j, 0 ≤ j → j < gI 6 → 0 ≤ gF 5 j ∧ gF 5 j ≤ 400) {v1 : Int} (r1_ : rgo v1) (h1 : su1 q (ow K rdn rlt) = some v1) (hE2 : EvO (gF 5) (gF 6) wr (gI 6) (gF 2 c) (su2 q (ow K rdn rlt))) (hr2 : R32 (gF 2 c)) (hok : ∀ T : OS, onO q (K, Z, dz, rdn, rlt) = some T → ∀ (rn rl rp td br rbr : Int) (rs rm rd ro tm sk wd dk dl dg rsk wr : Int → Int), SI T.1 lc fo rn rl rp rs rm rd tm → UR T.1 T.2.1 T.2.2.1 dk dl dg → (∀ j, 22 ≤ j → T.1 j = K j) → Q (W_H hdn bl sp su lc fo rn rl rp pz pn fl td br T.2.2.1 ez T.2.2.2.1 T.2.2.2.2 rbr fz rs rm rd ro tm kp by_ tk ps pv pw sk wd dk dl dg rsk wr rf qI aI bI cI gI pI yI qF aF bF cF gF eF fF pF yF nF pr be wy lx qx ax bx cx ts) (some (.int (ii 1)))) (her : onO q (K, Z, dz, rdn, rlt) = none → ∀ (dz rdn rlt : Int) (rn rl rp td br rbr : Int) (rs rm rd ro tm sk wd dk dl dg rsk wr : Int → Int), Q (W_H hdn bl sp su lc fo rn rl rp pz pn fl td br dz ez rdn rlt rbr fz rs rm rd ro tm kp by_ tk ps pv pw sk wd dk dl dg rsk wr rf qI aI bI cI gI pI yI qF aF bF cF gF eF fF pF yF nF pr be wy lx qx ax bx cx ts) (some (.int (ii 0))))  : SJ g m_Run_runOnce (d + 5) 92 [some (.ref 46), some (.ref 26), some (.int (ii c)), some (.int (ii v1)), none, none] [] (W_H hdn bl sp su lc fo rn rl rp pz pn fl td br dz ez rdn rlt rbr fz rs rm rd ro tm kp by_ tk ps pv pw sk wd dk dl dg rsk wr rf qI aI bI cI gI pI yI qF aF bF cF gF eF fF pF yF nF pr be wy lx qx ax bx cx ts) 0 0 Q := by
  refine j_aload_n d_Run_runOnce_92 rfl ?_
  refine gf_H_26_2 f_Run_91 d_Run_runOnce_93 ?_
  refine j_iload_n d_Run_runOnce_96 rfl ?_
  refine al_H_29 d_Run_runOnce_97 (by omega) (by omega) ?_
  refine z_iconst d_Run_runOnce_98 ?_
  refine z_icmp_ne (t := 106) d_Run_runOnce_99 (by decide) (by first | omega | exact hw _ | exact hx _ _ | assumption) (by first | omega | exact hw _ | exact hx _ _ | assumption) (fun h99 => ?_) (fun h99 => ?_)
  · obtain ⟨u0, u1, v2, b2, hmm, hrv, hbb⟩ := hE2.resolve_left (fun z => h99 z.1)
    have hb01 : b2 = 0 ∨ b2 = 1 := by
      rcases hbb with z | z
      · exact Or.inl z.1
      · exact Or.inr z.1
    refine j_aload_n d_Run_runOnce_106 rfl ?_
    refine gf_H_46_5 f_Run_25 d_Run_runOnce_107 ?_
    refine j_aload_n d_Run_runOnce_110 rfl ?_
    refine j_aload_n d_Run_runOnce_111 rfl ?_
    refine gf_H_26_2 f_Run_91 d_Run_runOnce_112 ?_
    refine j_iload_n d_Run_runOnce_115 rfl ?_
    refine al_H_29 d_Run_runOnce_116 (by omega) (by omega) ?_
    refine j_aload_n d_Run_runOnce_117 rfl ?_
    refine gf_H_46_6 f_Run_29 d_Run_runOnce_118 ?_
    refine v_call3 d_Run_runOnce_121 c_Run_80 rfl ⟨_, rfl, rfl⟩ (Nat.le_of_ble_eq_true rfl) (E_H_SM (fun Q2 kz => t_Sum_of z0_ (by omega) (by omega) hst (by omega) (by omega) (hmm _) (fun skz => kz _ _ _ rfl ?_)) rfl)
    refine j_istore d_Run_runOnce_124 (by decide) ?_
    show SJ _ _ _ _ [_, _, _, _, _, _] _ _ _ _ _
    refine j_aload_n d_Run_runOnce_126 rfl ?_
    refine gf_H_26_2 f_Run_91 d_Run_runOnce_127 ?_
    refine j_iload_n d_Run_runOnce_130 rfl ?_
    refine al_H_29 d_Run_runOnce_131 (by omega) (by omega) ?_
    refine z_iconst d_Run_runOnce_132 ?_
    refine z_icmp_eq (t := 148) d_Run_runOnce_133 (by decide) (by first | omega | exact hw _ | exact hx _ _ | assumption) (by first | omega | exact hw _ | exact hx _ _ | assumption) (fun h133 => ?_) (fun h133 => ?_)
    · first
      | exact rO_148 hS hL hU c0 c1 hkn e0 e1 hT r1_ (by omega) h1 h2 hok her
      | (have h2 : su2 q (ow K rdn rlt) = some v2 := by
           rcases hbb with z | z
           · exact z.2
           · exact absurd h143 (by rw [z.1]; decide)
         exact rO_148 hS hL hU c0 c1 hkn e0 e1 hT r1_ hrv h1 h2 hok her)
      | (exfalso; omega)
    · refine j_aload_n d_Run_runOnce_136 rfl ?_
      refine gf_H_46_5 f_Run_25 d_Run_runOnce_137 ?_
      refine gf_H_55_0 f_Run_87 d_Run_runOnce_140 ?_
      refine z_if_eq (t := 148) d_Run_runOnce_143 (by decide) (by first | omega | exact hw _ | exact hx _ _ | assumption) (fun h143 => ?_) (fun h143 => ?_)
      · first
        | exact rO_148 hS hL hU c0 c1 hkn e0 e1 hT r1_ (by omega) h1 h2 hok her
        | (have h2 : su2 q (ow K rdn rlt) = some v2 := by
             rcases hbb with z | z
             · exact z.2
             · exact absurd h143 (by rw [z.1]; decide)
           exact rO_148 hS hL hU c0 c1 hkn e0 e1 hT r1_ hrv h1 h2 hok her)
        | (exfalso; omega)
      · have hnn : su2 q (ow K rdn rlt) = none := by
          rcases hbb with z | z
          · exact absurd z.1 h143
          · exact z.2
        refine z_iconst d_Run_runOnce_146 ?_
        exact z_zreturn rfl (Or.inl rfl) d_Run_runOnce_147 (her (onO_br hT (fun z => by rw [hnn] at z; cases z.2)) _ _ _ _ _ _ _ _ _ _ _ _ _ _ _ _ _ _ _ _ _)
  · have e2 : gF 2 c = -1 := by omega
    have h2 : su2 q (ow K rdn rlt) = some 0 := by
      rcases hE2 with z | z
      · exact z.2
      · exfalso; exact absurd z.1 (by omega)
    refine z_iconst d_Run_runOnce_102 ?_
    refine j_goto (t := 124) d_Run_runOnce_103 (by decide) ?_
    refine j_istore d_Run_runOnce_124 (by decide) ?_
    show SJ _ _ _ _ [_, _, _, _, _, _] _ _ _ _ _
    refine j_aload_n d_Run_runOnce_126 rfl ?_
    refine gf_H_26_2 f_Run_91 d_Run_runOnce_127 ?_
    refine j_iload_n d_Run_runOnce_130 rfl ?_
    refine al_H_29 d_Run_runOnce_131 (by omega) (by omega) ?_
    refine z_iconst d_Run_runOnce_132 ?_
    refine z_icmp_eq (t := 148) d_Run_runOnce_133 (by decide) (by first | omega | exact hw _ | exact hx _ _ | assumption) (by first | omega | exact hw _ | exact hx _ _ | assumption) (fun h133 => ?_) (fun h133 => ?_)
    · first
      | exact rO_148 hS hL hU c0 c1 hkn e0 e1 hT r1_ (by omega) h1 h2 hok her
      | (have h2 : su2 q (ow K rdn rlt) = some v2 := by
           rcases hbb with z | z
           · exact z.2
           · exact absurd h143 (by rw [z.1]; decide)
         exact rO_148 hS hL hU c0 c1 hkn e0 e1 hT r1_ hrv h1 h2 hok her)
      | (exfalso; omega)
    · exfalso; omega
theorem rO_37 {g : Bool} {d : Nat} {Q : List xM → Option Value → Prop} {hdn bl sp su lc fo rn rl rp pz pn fl td br dz ez rdn rlt rbr fz : Int} {rs rm rd ro tm kp by_ tk ps pv pw sk wd dk dl dg rsk wr rf : Int → Int} {qI aI bI cI gI pI yI : Nat → Int} {qF aF bF cF gF eF fF pF yF nF : Nat → Int → Int} {pr be wy : Int → Int → Int} {lx qx ax bx cx : Nat → Option Nat} {ts : List TD} {K Z : Int → Int} (hS : SI K lc fo rn rl rp rs rm rd tm) (hL : LB K lx ts) (hU : UR K Z dz dk dl dg) {q : CXC} {c : Int} (c0 : 0 ≤ c) (c1 : c < 12) (hkn : (q.1 = 21 ∧ gF 0 c = 0) ∨ (q.1 = 23 ∧ gF 0 c = 1) ∨ (q.1 = 24 ∧ gF 0 c = 2) ∨ (q.1 = 26 ∧ gF 0 c = 3)) (e0 : 0 ≤ rdn) (e1 : rdn ≤ 900) (hT : tstV q (ow K rdn rlt) = some 1) (z0_ : 0 ≤ gI 6) (z1_ : gI 6 ≤ 436) (hst : ∀ j, 0 ≤ j → j < gI 6 → 0 ≤ gF 5 j ∧ gF 5 j ≤ 400) (hE1 : EvO (gF 5) (gF 6) wr (gI 6) (gF 1 c) (su1 q (ow K rdn rlt))) (hr1 : R32 (gF 1 c)) (hE2 : EvO (gF 5) (gF 6) wr (gI 6) (gF 2 c) (su2 q (ow K rdn rlt))) (hr2 : R32 (gF 2 c)) (hok : ∀ T : OS, onO q (K, Z, dz, rdn, rlt) = some T → ∀ (rn rl rp td br rbr : Int) (rs rm rd ro tm sk wd dk dl dg rsk wr : Int → Int), SI T.1 lc fo rn rl rp rs rm rd tm → UR T.1 T.2.1 T.2.2.1 dk dl dg → (∀ j, 22 ≤ j → T.1 j = K j) → Q (W_H hdn bl sp su lc fo rn rl rp pz pn fl td br T.2.2.1 ez T.2.2.2.1 T.2.2.2.2 rbr fz rs rm rd ro tm kp by_ tk ps pv pw sk wd dk dl dg rsk wr rf qI aI bI cI gI pI yI qF aF bF cF gF eF fF pF yF nF pr be wy lx qx ax bx cx ts) (some (.int (ii 1)))) (her : onO q (K, Z, dz, rdn, rlt) = none → ∀ (dz rdn rlt : Int) (rn rl rp td br rbr : Int) (rs rm rd ro tm sk wd dk dl dg rsk wr : Int → Int), Q (W_H hdn bl sp su lc fo rn rl rp pz pn fl td br dz ez rdn rlt rbr fz rs rm rd ro tm kp by_ tk ps pv pw sk wd dk dl dg rsk wr rf qI aI bI cI gI pI yI qF aF bF cF gF eF fF pF yF nF pr be wy lx qx ax bx cx ts) (some (.int (ii 0))))  : SJ g m_Run_runOnce (d + 5) 37 [some (.ref 46), some (.ref 26), some (.int (ii c)), none, none, none] [] (W_H hdn bl sp su lc fo rn rl rp pz pn fl td br dz ez rdn rlt rbr fz rs rm rd ro tm kp by_ tk ps pv pw sk wd dk dl dg rsk wr rf qI aI bI cI gI pI yI qF aF bF cF gF eF fF pF yF nF pr be wy lx qx ax bx cx ts) 0 0 Q := by
  refine j_aload_n d_Run_runOnce_37 rfl ?_
  refine gf_H_26_1 f_Run_84 d_Run_runOnce_38 ?_
  refine j_iload_n d_Run_runOnce_41 rfl ?_
  refine al_H_28 d_Run_runOnce_42 (by omega) (by omega) ?_
  refine z_iconst d_Run_runOnce_43 ?_
  refine z_icmp_ne (t := 51) d_Run_runOnce_44 (by decide) (by first | omega | exact hw _ | exact hx _ _ | assumption) (by first | omega | exact hw _ | exact hx _ _ | assumption) (fun h44 => ?_) (fun h44 => ?_)
  · obtain ⟨u0, u1, v1, b1, hmm, hrv, hbb⟩ := hE1.resolve_left (fun z => h44 z.1)
    have hb01 : b1 = 0 ∨ b1 = 1 := by
      rcases hbb with z | z
      · exact Or.inl z.1
      · exact Or.inr z.1
    refine j_aload_n d_Run_runOnce_51 rfl ?_
    refine gf_H_46_5 f_Run_25 d_Run_runOnce_52 ?_
    refine j_aload_n d_Run_runOnce_55 rfl ?_
    refine j_aload_n d_Run_runOnce_56 rfl ?_
    refine gf_H_26_1 f_Run_84 d_Run_runOnce_57 ?_
    refine j_iload_n d_Run_runOnce_60 rfl ?_
    refine al_H_28 d_Run_runOnce_61 (by omega) (by omega) ?_
    refine j_aload_n d_Run_runOnce_62 rfl ?_
    refine gf_H_46_6 f_Run_29 d_Run_runOnce_63 ?_
    refine v_call3 d_Run_runOnce_66 c_Run_80 rfl ⟨_, rfl, rfl⟩ (Nat.le_of_ble_eq_true rfl) (E_H_SM (fun Q2 kz => t_Sum_of z0_ (by omega) (by omega) hst (by omega) (by omega) (hmm _) (fun skz => kz _ _ _ rfl ?_)) rfl)
    refine j_istore_n d_Run_runOnce_69 (by decide) ?_
    show SJ _ _ _ _ [_, _, _, _, _, _] _ _ _ _ _
    refine j_aload_n d_Run_runOnce_70 rfl ?_
    refine gf_H_26_1 f_Run_84 d_Run_runOnce_71 ?_
    refine j_iload_n d_Run_runOnce_74 rfl ?_
    refine al_H_28 d_Run_runOnce_75 (by omega) (by omega) ?_
    refine z_iconst d_Run_runOnce_76 ?_
    refine z_icmp_eq (t := 92) d_Run_runOnce_77 (by decide) (by first | omega | exact hw _ | exact hx _ _ | assumption) (by first | omega | exact hw _ | exact hx _ _ | assumption) (fun h77 => ?_) (fun h77 => ?_)
    · first
      | exact rO_92 hS hL hU c0 c1 hkn e0 e1 hT z0_ z1_ hst (by omega) h1 hE2 hr2 hok her
      | (have h1 : su1 q (ow K rdn rlt) = some v1 := by
           rcases hbb with z | z
           · exact z.2
           · exact absurd h87 (by rw [z.1]; decide)
         exact rO_92 hS hL hU c0 c1 hkn e0 e1 hT z0_ z1_ hst hrv h1 hE2 hr2 hok her)
      | (exfalso; omega)
    · refine j_aload_n d_Run_runOnce_80 rfl ?_
      refine gf_H_46_5 f_Run_25 d_Run_runOnce_81 ?_
      refine gf_H_55_0 f_Run_87 d_Run_runOnce_84 ?_
      refine z_if_eq (t := 92) d_Run_runOnce_87 (by decide) (by first | omega | exact hw _ | exact hx _ _ | assumption) (fun h87 => ?_) (fun h87 => ?_)
      · first
        | exact rO_92 hS hL hU c0 c1 hkn e0 e1 hT z0_ z1_ hst (by omega) h1 hE2 hr2 hok her
        | (have h1 : su1 q (ow K rdn rlt) = some v1 := by
             rcases hbb with z | z
             · exact z.2
             · exact absurd h87 (by rw [z.1]; decide)
           exact rO_92 hS hL hU c0 c1 hkn e0 e1 hT z0_ z1_ hst hrv h1 hE2 hr2 hok her)
        | (exfalso; omega)
      · have hnn : su1 q (ow K rdn rlt) = none := by
          rcases hbb with z | z
          · exact absurd z.1 h87
          · exact z.2
        refine z_iconst d_Run_runOnce_90 ?_
        exact z_zreturn rfl (Or.inl rfl) d_Run_runOnce_91 (her (onO_br hT (fun z => by rw [hnn] at z; cases z.1)) _ _ _ _ _ _ _ _ _ _ _ _ _ _ _ _ _ _ _ _ _)
  · have e1_ : gF 1 c = -1 := by omega
    have h1 : su1 q (ow K rdn rlt) = some 0 := by
      rcases hE1 with z | z
      · exact z.2
      · exfalso; exact absurd z.1 (by omega)
    refine z_iconst d_Run_runOnce_47 ?_
    refine j_goto (t := 69) d_Run_runOnce_48 (by decide) ?_
    refine j_istore_n d_Run_runOnce_69 (by decide) ?_
    show SJ _ _ _ _ [_, _, _, _, _, _] _ _ _ _ _
    refine j_aload_n d_Run_runOnce_70 rfl ?_
    refine gf_H_26_1 f_Run_84 d_Run_runOnce_71 ?_
    refine j_iload_n d_Run_runOnce_74 rfl ?_
    refine al_H_28 d_Run_runOnce_75 (by omega) (by omega) ?_
    refine z_iconst d_Run_runOnce_76 ?_
    refine z_icmp_eq (t := 92) d_Run_runOnce_77 (by decide) (by first | omega | exact hw _ | exact hx _ _ | assumption) (by first | omega | exact hw _ | exact hx _ _ | assumption) (fun h77 => ?_) (fun h77 => ?_)
    · first
      | exact rO_92 hS hL hU c0 c1 hkn e0 e1 hT z0_ z1_ hst (by omega) h1 hE2 hr2 hok her
      | (have h1 : su1 q (ow K rdn rlt) = some v1 := by
           rcases hbb with z | z
           · exact z.2
           · exact absurd h87 (by rw [z.1]; decide)
         exact rO_92 hS hL hU c0 c1 hkn e0 e1 hT z0_ z1_ hst hrv h1 hE2 hr2 hok her)
      | (exfalso; omega)
    · exfalso; omega
theorem t_Run_runOnce {g : Bool} {d : Nat} {Q : List xM → Option Value → Prop} {hdn bl sp su lc fo rn rl rp pz pn fl td br dz ez rdn rlt rbr fz : Int} {rs rm rd ro tm kp by_ tk ps pv pw sk wd dk dl dg rsk wr rf : Int → Int} {qI aI bI cI gI pI yI : Nat → Int} {qF aF bF cF gF eF fF pF yF nF : Nat → Int → Int} {pr be wy : Int → Int → Int} {lx qx ax bx cx : Nat → Option Nat} {ts : List TD} {K Z : Int → Int} (hS : SI K lc fo rn rl rp rs rm rd tm) (hL : LB K lx ts) (hU : UR K Z dz dk dl dg) {q : CXC} {c : Int} (c0 : 0 ≤ c) (c1 : c < 12) (e0 : 0 ≤ rdn) (e1 : rdn ≤ 900) (l0 : -1 ≤ rlt) (l1 : rlt ≤ 99) (z0_ : 0 ≤ gI 6) (z1_ : gI 6 ≤ 436) (hst : ∀ j, 0 ≤ j → j < gI 6 → 0 ≤ gF 5 j ∧ gF 5 j ≤ 400) {cs : List CXC} (hX : TxR 260 (gF 0) (gF 1) (gF 2) (gF 3) (gF 4) (gF 5) (gF 6) 0 0 cs (gI 6)) (hq : cs[c.toNat]? = some q) (hk : ∀ (wd : Int → Int) (wv : Int → Int → Int), wdR wd wv 1 14 20 → CXk (gF 5) (gF 6) wd (gI 6) wv q) (hh : CXh 1 q) (hok : ∀ T : OS, onO q (K, Z, dz, rdn, rlt) = some T → ∀ (rn rl rp td br rbr : Int) (rs rm rd ro tm sk wd dk dl dg rsk wr : Int → Int), SI T.1 lc fo rn rl rp rs rm rd tm → UR T.1 T.2.1 T.2.2.1 dk dl dg → (∀ j, 22 ≤ j → T.1 j = K j) → Q (W_H hdn bl sp su lc fo rn rl rp pz pn fl td br T.2.2.1 ez T.2.2.2.1 T.2.2.2.2 rbr fz rs rm rd ro tm kp by_ tk ps pv pw sk wd dk dl dg rsk wr rf qI aI bI cI gI pI yI qF aF bF cF gF eF fF pF yF nF pr be wy lx qx ax bx cx ts) (some (.int (ii 1)))) (her : onO q (K, Z, dz, rdn, rlt) = none → ∀ (dz rdn rlt : Int) (rn rl rp td br rbr : Int) (rs rm rd ro tm sk wd dk dl dg rsk wr : Int → Int), Q (W_H hdn bl sp su lc fo rn rl rp pz pn fl td br dz ez rdn rlt rbr fz rs rm rd ro tm kp by_ tk ps pv pw sk wd dk dl dg rsk wr rf qI aI bI cI gI pI yI qF aF bF cF gF eF fF pF yF nF pr be wy lx qx ax bx cx ts) (some (.int (ii 0))))  : CT g m_Run_runOnce (d + 5) [.ref 46, .ref 26, .int (ii c)] (W_H hdn bl sp su lc fo rn rl rp pz pn fl td br dz ez rdn rlt rbr fz rs rm rd ro tm kp by_ tk ps pv pw sk wd dk dl dg rsk wr rf qI aI bI cI gI pI yI qF aF bF cF gF eF fF pF yF nF pr be wy lx qx ax bx cx ts) 0 0 Q := by
  refine CT.of (by decide) (Nat.le_of_ble_eq_true rfl) ?_
  show SJ _ _ _ _ [some (.ref 46), some (.ref 26), some (.int (ii c)), none, none, none] [] _ _ _ _
  have hKR := hS.2.1
  have hKK := hL.kok hKR
  have hLX := hL.lxE hKR
  have hn20 := hKR.1
  have hu16 := hU.1
  obtain ⟨hR, -, htm0, -⟩ := id hS
  refine j_aload_n d_Run_runOnce_0 rfl ?_
  refine v_call0 d_Run_runOnce_1 c_Run_74 rfl ⟨_, rfl, rfl⟩ (Nat.le_of_ble_eq_true rfl) (E_H_LK (fun Q2 kz => t_Run_look htm0 hR (fun rl2 rp2 rm2 rd2 ro2 wr2 hR2 hW2 => kz _ _ _ _ _ _ _ rfl ?_)) rfl)
  have hS2 : SI K lc fo rn rl2 rp2 rs rm2 rd2 tm := ⟨hR2, hS.2⟩
  obtain ⟨hv1, hE1, hE2, hkn, hmm_⟩ := ord_ev hX c0 hq (hk wr2 _ (hW2.wdr hKR ⟨e0, by omega⟩ ⟨l0, l1⟩)) hh
  have hr1 : R32 (gF 1 c) := by
    rcases hE1 with z | z
    · have := z.1; omega
    · have := z.1; have := z.2.1; omega
  have hr2 : R32 (gF 2 c) := by
    rcases hE2 with z | z
    · have := z.1; omega
    · have := z.1; have := z.2.1; omega
  have hr3 : R32 (gF 3 c) := by
    rcases hv1 with z | z
    · have := z.1; omega
    · have := z.1; have := z.2.1; omega
  refine j_aload_n d_Run_runOnce_4 rfl ?_
  refine gf_H_26_3 f_Run_77 d_Run_runOnce_5 ?_
  refine j_iload_n d_Run_runOnce_8 rfl ?_
  refine al_H_30 d_Run_runOnce_9 (by omega) (by omega) ?_
  refine z_iconst d_Run_runOnce_10 ?_
  refine z_icmp_eq (t := 37) d_Run_runOnce_11 (by decide) (by first | omega | exact hw _ | exact hx _ _ | assumption) (by first | omega | exact hw _ | exact hx _ _ | assumption) (fun h11 => ?_) (fun h11 => ?_)
  · first
    | (have hT : tstV q (ow K rdn rlt) = some 1 := by
         rcases hv1 with z | z
         · exact z.2
         · exfalso; exact absurd z.1 (by omega)
       exact rO_37 hS2 hL hU c0 c1 hkn e0 e1 hT z0_ z1_ hst hE1 hr1 hE2 hr2 hok her)
    | (have hT : tstV q (ow K rdn rlt) = some 1 := by
         by_cases z : tstV q (ow K rdn rlt) = some 1
         · exact z
         · exact absurd (hvt.mpr z) h32
       exact rO_37 hS2 hL hU c0 c1 hkn e0 e1 hT z0_ z1_ hst hE1 hr1 hE2 hr2 hok her)
  · obtain ⟨u0, u1, vt, bt_, hmt, hvr, hvt⟩ := hv1.resolve_left (fun z => h11 z.1)
    refine j_aload_n d_Run_runOnce_14 rfl ?_
    refine gf_H_46_5 f_Run_25 d_Run_runOnce_15 ?_
    refine j_aload_n d_Run_runOnce_18 rfl ?_
    refine j_aload_n d_Run_runOnce_19 rfl ?_
    refine gf_H_26_3 f_Run_77 d_Run_runOnce_20 ?_
    refine j_iload_n d_Run_runOnce_23 rfl ?_
    refine al_H_30 d_Run_runOnce_24 (by omega) (by omega) ?_
    refine j_aload_n d_Run_runOnce_25 rfl ?_
    refine gf_H_46_6 f_Run_29 d_Run_runOnce_26 ?_
    refine v_call3 d_Run_runOnce_29 c_Run_80 rfl ⟨_, rfl, rfl⟩ (Nat.le_of_ble_eq_true rfl) (E_H_SM (fun Q2 kz => t_Sum_of z0_ (by omega) (by omega) hst (by omega) (by omega) (hmt _) (fun skz => kz _ _ _ rfl ?_)) rfl)
    refine z_if_ne (t := 37) d_Run_runOnce_32 (by decide) (by first | omega | exact hw _ | exact hx _ _ | assumption) (fun h32 => ?_) (fun h32 => ?_)
    · first
      | (have hT : tstV q (ow K rdn rlt) = some 1 := by
           rcases hv1 with z | z
           · exact z.2
           · exfalso; exact absurd z.1 (by omega)
         exact rO_37 hS2 hL hU c0 c1 hkn e0 e1 hT z0_ z1_ hst hE1 hr1 hE2 hr2 hok her)
      | (have hT : tstV q (ow K rdn rlt) = some 1 := by
           by_cases z : tstV q (ow K rdn rlt) = some 1
           · exact z
           · exact absurd (hvt.mpr z) h32
         exact rO_37 hS2 hL hU c0 c1 hkn e0 e1 hT z0_ z1_ hst hE1 hr1 hE2 hr2 hok her)
    · refine z_iconst d_Run_runOnce_35 ?_
      exact z_zreturn rfl (Or.inr rfl) d_Run_runOnce_36 (hok _ (onO_no (S := (K, Z, dz, rdn, rlt)) (hvt.mp h32)) _ _ _ _ _ _ _ _ _ _ _ _ _ _ _ _ _ _ hS2 hU (fun j hj => rfl))
