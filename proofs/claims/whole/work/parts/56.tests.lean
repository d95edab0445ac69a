section PPB
variable {C : Int → Int} {S : Int → Int → PR SXC} {T : Int → Int → PR TXC} {tk lv : Int}
theorem pPb_br {a : TXC} {t l : Int} (h : C tk = 140) (e : T (tk + 1) lv = .inl (a, t, l)) (h2 : C t = 141) : pPb C S T tk lv = .inl (a, t + 1, l) := by
  unfold pPb
  rw [if_pos h, e]
  exact if_pos h2
theorem pPb_brN {a : TXC} {t l : Int} (h : C tk = 140) (e : T (tk + 1) lv = .inl (a, t, l)) (h2 : ¬ C t = 141) : pPb C S T tk lv = .inr t := by
  unfold pPb
  rw [if_pos h, e]
  exact if_neg h2
theorem pPb_brE {t : Int} (h : C tk = 140) (e : T (tk + 1) lv = .inr t) : pPb C S T tk lv = .inr t := by
  unfold pPb
  rw [if_pos h, e]
theorem pPb_c1 {t : Int} (h : ¬ C tk = 140) (e : S tk lv = .inr t) : pPb C S T tk lv = .inr t := by
  unfold pPb
  rw [if_neg h, e]
theorem pPb_c2 {a : SXC} {t l : Int} (h : ¬ C tk = 140) (e : S tk lv = .inl (a, t, l)) (h2 : ¬ (C t = 160 ∨ C t = 162 ∨ C t = 161)) : pPb C S T tk lv = .inr t := by
  unfold pPb
  rw [if_neg h, e]
  exact if_neg h2
theorem pPb_c3 {a : SXC} {t l t2 : Int} (h : ¬ C tk = 140) (e : S tk lv = .inl (a, t, l)) (h2 : C t = 160 ∨ C t = 162 ∨ C t = 161) (e2 : S (t + 1) l = .inr t2) : pPb C S T tk lv = .inr t2 := by
  unfold pPb
  rw [if_neg h, e]
  dsimp only
  rw [if_pos h2, e2]
theorem pPb_c4 {a b : SXC} {t l t2 l2 : Int} (h : ¬ C tk = 140) (e : S tk lv = .inl (a, t, l)) (h2 : C t = 160 ∨ C t = 162 ∨ C t = 161) (e2 : S (t + 1) l = .inl (b, t2, l2)) : pPb C S T tk lv = .inl (cmX (C t) a b, t2, l2) := by
  unfold pPb
  rw [if_neg h, e]
  dsimp only
  rw [if_pos h2, e2]
theorem pPl_er {t : Int} (e : pPb C S T (pNo C 401 0 tk).2 lv = .inr t) : pPl C S T tk lv = .inr t := by
  unfold pPl
  rw [e]
theorem pPl_go {a : TXC} {t l : Int} (e : pPb C S T (pNo C 401 0 tk).2 lv = .inl (a, t, l)) : pPl C S T tk lv = .inl ((if (pNo C 401 0 tk).1 = 1 then ntX a else a), t, l) := by
  unfold pPl
  rw [e]
end PPB
theorem At.jn {st vl st2 vl2 : Int → Int} {z u v Z : Int} {l1 l2 : List (Int × Int)} (hZ : Z = z + (l1.length : Int)) (h1 : At st vl z l1) (hB : ∀ j, j < Z + 1 → st2 j = up st Z u j ∧ vl2 j = up vl Z 0 j) (h2 : At st2 vl2 (Z + 1) l2) : At st2 (up vl2 Z v) z (l1 ++ (u, v) :: l2) := by
  subst hZ
  refine At.app (h1.keep (fun j hj => ?_)) ?_
  · have := hB j (by omega)
    rw [this.1, up_ne (by omega), up_ne (by omega), this.2, up_ne (by omega)]
    exact ⟨rfl, rfl⟩
  · have e : (u, v) :: l2 = [(u, v)] ++ l2 := rfl
    rw [e]
    refine At.app (At.one ?_ up_eq) ?_
    · rw [(hB _ (by omega)).1, up_eq]
    · intro i q hq
      have := h2 i q hq
      have e2 : z + (l1.length : Int) + (([(u, v)] : List (Int × Int)).length : Int) = z + (l1.length : Int) + 1 := rfl
      rw [e2, up_ne (by omega)]
      exact this
theorem t_Gra_comparison {g : Bool} {d : Nat} {Q : List xM → Option Value → Prop} {fl oo ne tc pz pn : Int} {kn ff sc ts mm st vl by_ tk ps pv pw : Int → Int} {C V : Int → Int} {N : Int} (hT : TkH C V N tk pv) (hpn : pn = N + 1) {S_ : Int → Int → PR SXC} {T_ : Int → Int → PR TXC} (hS : MGS g m_Gra_sum (d + 10) ne fl oo tc pz pn kn ff sc ts mm by_ tk ps pv pw C N S_) (hG : GP N S_) {ti lv z : Int} (k0 : 1 ≤ ti) (k1 : ti ≤ N) (v0 : 0 ≤ lv) (v1 : lv ≤ 50) (z0_ : 0 ≤ z) (z1_ : z ≤ ti) (hnb : ¬ C ti = 140) (hok : ∀ (a : TXC) (t l : Int) (st_ vl_ : Int → Int), pPb C S_ T_ ti lv = .inl (a, t, l) → At st_ vl_ z (a.2 z) → (∀ j, j < z → st_ j = st j ∧ vl_ j = vl j) → ((a.2 z).length : Int) ≤ t - ti → Q (W_GR fl oo t (tkF C N t) l ne tc (z + ((a.2 z).length : Int)) pz pn kn ff sc ts mm st_ vl_ by_ tk ps pv pw) (some (.int (ii 1)))) (her : ∀ (t : Int), pPb C S_ T_ ti lv = .inr t → ∀ (nx_ tn_ pp_ ne_ sz_ : Int) (st_ vl_ : Int → Int), Q (W_GR (ps t) oo nx_ tn_ pp_ ne_ tc sz_ pz pn kn ff sc ts mm st_ vl_ by_ tk ps pv pw) (some (.int (ii 0))))  : CT g m_Gra_comparison (d + 11) [.ref 0] (W_GR fl oo ti (tkF C N ti) lv ne tc z pz pn kn ff sc ts mm st vl by_ tk ps pv pw) 0 0 Q := by
  refine CT.of (by decide) (Nat.le_of_ble_eq_true rfl) ?_
  show SJ _ _ _ _ [some (.ref 0), none] [] _ _ _ _
  have hN := hT.1
  refine j_aload_n d_Gra_comparison_0 rfl ?_
  refine v_call0 d_Gra_comparison_1 c_Gra_112 rfl ⟨_, rfl, rfl⟩ (Nat.le_of_ble_eq_true rfl) (hS ti lv z st vl _ k0 k1 v0 v1 z0_ z1_ (fun a t l st2 vl2 hq hA hB hC => ?_) (fun t hq nx2 tn2 pp2 ne2 sz2 st2 vl2 => ?_))
  · refine z_if_ne (t := 9) d_Gra_comparison_4 (by decide) (by first | omega | exact hw _ | exact hx _ _ | assumption) (fun _ => ?_) (fun h => absurd h (by decide))
    have hg := (hG ti lv k0 k1 v0 v1).1 _ _ _ hq
    have hRR := hT.R (show 0 ≤ t by omega)
    have h60 := hT.b (show 0 ≤ t by omega) (show t ≤ N by omega) (b := 60) (by decide) (by decide)
    have h62 := hT.b (show 0 ≤ t by omega) (show t ≤ N by omega) (b := 62) (by decide) (by decide)
    have h61 := hT.b (show 0 ≤ t by omega) (show t ≤ N by omega) (b := 61) (by decide) (by decide)
    refine j_aload_n d_Gra_comparison_9 rfl ?_
    refine gf_GR_0_5 f_Gra_29 d_Gra_comparison_10 ?_
    refine j_istore_n d_Gra_comparison_13 (by decide) ?_
    show SJ _ _ _ _ [_, _] _ _ _ _ _
    refine j_iload_n d_Gra_comparison_14 rfl ?_
    refine z_bipush d_Gra_comparison_15 (by decide) ?_
    refine z_icmp_eq (t := 37) d_Gra_comparison_17 (by decide) (by first | omega | exact hw _ | exact hx _ _ | assumption) (by first | omega | exact hw _ | exact hx _ _ | assumption) (fun h17 => ?_) (fun h17 => ?_)
    · have hop : C t = 160 ∨ C t = 162 ∨ C t = 161 := by first | exact Or.inl (h60.mp (by omega)) | exact Or.inr (Or.inl (h62.mp (by omega))) | exact Or.inr (Or.inr (h61.mp (by omega)))
      have hlt : t < N := hT.lt (by omega) (by omega)
      refine j_aload_n d_Gra_comparison_37 rfl ?_
      refine v_call0 d_Gra_comparison_38 c_Gra_74 rfl ⟨_, rfl, rfl⟩ (Nat.le_of_ble_eq_true rfl) (t_Gra_advance hT hpn (by omega) hlt ?_)
      refine j_aload_n d_Gra_comparison_41 rfl ?_
      refine v_call0 d_Gra_comparison_42 c_Gra_112 rfl ⟨_, rfl, rfl⟩ (Nat.le_of_ble_eq_true rfl) (hS (t + 1) l (z + (a.2.length : Int)) st2 vl2 _ (by omega) (by omega) (by omega) (by omega) (by omega) (by omega) (fun b t2 l2 st3 vl3 hq2 hA2 hB2 hC2 => ?_) (fun t2 hq2 nx2 tn2 pp2 ne2 sz2 st3 vl3 => ?_))
      · refine z_if_ne (t := 50) d_Gra_comparison_45 (by decide) (by first | omega | exact hw _ | exact hx _ _ | assumption) (fun _ => ?_) (fun h => absurd h (by decide))
        have hg2 := (hG (t + 1) l (by omega) (by omega) (by omega) (by omega)).1 _ _ _ hq2
        refine j_aload_n d_Gra_comparison_50 rfl ?_
        refine gf_GR_0_0 f_Gra_12 d_Gra_comparison_51 ?_
        refine j_iload_n d_Gra_comparison_54 rfl ?_
        refine z_iconst d_Gra_comparison_55 ?_
        rw [tkF_o (by omega) hlt]
        refine v_call2 d_Gra_comparison_56 c_Gra_102 rfl ⟨_, rfl, rfl⟩ (Nat.le_of_ble_eq_true rfl) (t_Tex_addStep (by omega) (by omega) ?_)
        refine j_pop d_Gra_comparison_59 rfl ?_
        refine z_iconst d_Gra_comparison_60 ?_
        rw [show z + (a.2.length : Int) + (b.2.length : Int) + 1 = z + (((cmX (C t) a b).2 z).length : Int) by show _ = z + ((a.2 ++ b.2 ++ [(C t - 100, 0)]).length : Int); rw [len1, len2]; omega]
        exact z_zreturn rfl (Or.inr rfl) d_Gra_comparison_61 (hok _ _ _ _ _ (pPb_c4 hnb hq hop hq2) (((hA.keep hB2).app hA2).push (by rw [len2]; omega)) (fun j hj => ⟨(up_ne (by omega)).trans ((hB2 j (by omega)).1.trans (hB j hj).1), (up_ne (by omega)).trans ((hB2 j (by omega)).2.trans (hB j hj).2)⟩) (by show ((a.2 ++ b.2 ++ [(C t - 100, 0)]).length : Int) ≤ _; rw [len1, len2]; omega))
      · refine z_if_ne (t := 50) d_Gra_comparison_45 (by decide) (by first | omega | exact hw _ | exact hx _ _ | assumption) (fun h => absurd h (by decide)) (fun _ => ?_)
        refine z_iconst d_Gra_comparison_48 ?_
        exact z_zreturn rfl (Or.inl rfl) d_Gra_comparison_49 (her t2 (pPb_c3 hnb hq hop hq2) _ _ _ _ _ _ _)
    · refine j_iload_n d_Gra_comparison_20 rfl ?_
      refine z_bipush d_Gra_comparison_21 (by decide) ?_
      refine z_icmp_eq (t := 37) d_Gra_comparison_23 (by decide) (by first | omega | exact hw _ | exact hx _ _ | assumption) (by first | omega | exact hw _ | exact hx _ _ | assumption) (fun h23 => ?_) (fun h23 => ?_)
      · have hop : C t = 160 ∨ C t = 162 ∨ C t = 161 := by first | exact Or.inl (h60.mp (by omega)) | exact Or.inr (Or.inl (h62.mp (by omega))) | exact Or.inr (Or.inr (h61.mp (by omega)))
        have hlt : t < N := hT.lt (by omega) (by omega)
        refine j_aload_n d_Gra_comparison_37 rfl ?_
        refine v_call0 d_Gra_comparison_38 c_Gra_74 rfl ⟨_, rfl, rfl⟩ (Nat.le_of_ble_eq_true rfl) (t_Gra_advance hT hpn (by omega) hlt ?_)
        refine j_aload_n d_Gra_comparison_41 rfl ?_
        refine v_call0 d_Gra_comparison_42 c_Gra_112 rfl ⟨_, rfl, rfl⟩ (Nat.le_of_ble_eq_true rfl) (hS (t + 1) l (z + (a.2.length : Int)) st2 vl2 _ (by omega) (by omega) (by omega) (by omega) (by omega) (by omega) (fun b t2 l2 st3 vl3 hq2 hA2 hB2 hC2 => ?_) (fun t2 hq2 nx2 tn2 pp2 ne2 sz2 st3 vl3 => ?_))
        · refine z_if_ne (t := 50) d_Gra_comparison_45 (by decide) (by first | omega | exact hw _ | exact hx _ _ | assumption) (fun _ => ?_) (fun h => absurd h (by decide))
          have hg2 := (hG (t + 1) l (by omega) (by omega) (by omega) (by omega)).1 _ _ _ hq2
          refine j_aload_n d_Gra_comparison_50 rfl ?_
          refine gf_GR_0_0 f_Gra_12 d_Gra_comparison_51 ?_
          refine j_iload_n d_Gra_comparison_54 rfl ?_
          refine z_iconst d_Gra_comparison_55 ?_
          rw [tkF_o (by omega) hlt]
          refine v_call2 d_Gra_comparison_56 c_Gra_102 rfl ⟨_, rfl, rfl⟩ (Nat.le_of_ble_eq_true rfl) (t_Tex_addStep (by omega) (by omega) ?_)
          refine j_pop d_Gra_comparison_59 rfl ?_
          refine z_iconst d_Gra_comparison_60 ?_
          rw [show z + (a.2.length : Int) + (b.2.length : Int) + 1 = z + (((cmX (C t) a b).2 z).length : Int) by show _ = z + ((a.2 ++ b.2 ++ [(C t - 100, 0)]).length : Int); rw [len1, len2]; omega]
          exact z_zreturn rfl (Or.inr rfl) d_Gra_comparison_61 (hok _ _ _ _ _ (pPb_c4 hnb hq hop hq2) (((hA.keep hB2).app hA2).push (by rw [len2]; omega)) (fun j hj => ⟨(up_ne (by omega)).trans ((hB2 j (by omega)).1.trans (hB j hj).1), (up_ne (by omega)).trans ((hB2 j (by omega)).2.trans (hB j hj).2)⟩) (by show ((a.2 ++ b.2 ++ [(C t - 100, 0)]).length : Int) ≤ _; rw [len1, len2]; omega))
        · refine z_if_ne (t := 50) d_Gra_comparison_45 (by decide) (by first | omega | exact hw _ | exact hx _ _ | assumption) (fun h => absurd h (by decide)) (fun _ => ?_)
          refine z_iconst d_Gra_comparison_48 ?_
          exact z_zreturn rfl (Or.inl rfl) d_Gra_comparison_49 (her t2 (pPb_c3 hnb hq hop hq2) _ _ _ _ _ _ _)
      · refine j_iload_n d_Gra_comparison_26 rfl ?_
        refine z_bipush d_Gra_comparison_27 (by decide) ?_
        refine z_icmp_eq (t := 37) d_Gra_comparison_29 (by decide) (by first | omega | exact hw _ | exact hx _ _ | assumption) (by first | omega | exact hw _ | exact hx _ _ | assumption) (fun h29 => ?_) (fun h29 => ?_)
        · have hop : C t = 160 ∨ C t = 162 ∨ C t = 161 := by first | exact Or.inl (h60.mp (by omega)) | exact Or.inr (Or.inl (h62.mp (by omega))) | exact Or.inr (Or.inr (h61.mp (by omega)))
          have hlt : t < N := hT.lt (by omega) (by omega)
          refine j_aload_n d_Gra_comparison_37 rfl ?_
          refine v_call0 d_Gra_comparison_38 c_Gra_74 rfl ⟨_, rfl, rfl⟩ (Nat.le_of_ble_eq_true rfl) (t_Gra_advance hT hpn (by omega) hlt ?_)
          refine j_aload_n d_Gra_comparison_41 rfl ?_
          refine v_call0 d_Gra_comparison_42 c_Gra_112 rfl ⟨_, rfl, rfl⟩ (Nat.le_of_ble_eq_true rfl) (hS (t + 1) l (z + (a.2.length : Int)) st2 vl2 _ (by omega) (by omega) (by omega) (by omega) (by omega) (by omega) (fun b t2 l2 st3 vl3 hq2 hA2 hB2 hC2 => ?_) (fun t2 hq2 nx2 tn2 pp2 ne2 sz2 st3 vl3 => ?_))
          · refine z_if_ne (t := 50) d_Gra_comparison_45 (by decide) (by first | omega | exact hw _ | exact hx _ _ | assumption) (fun _ => ?_) (fun h => absurd h (by decide))
            have hg2 := (hG (t + 1) l (by omega) (by omega) (by omega) (by omega)).1 _ _ _ hq2
            refine j_aload_n d_Gra_comparison_50 rfl ?_
            refine gf_GR_0_0 f_Gra_12 d_Gra_comparison_51 ?_
            refine j_iload_n d_Gra_comparison_54 rfl ?_
            refine z_iconst d_Gra_comparison_55 ?_
            rw [tkF_o (by omega) hlt]
            refine v_call2 d_Gra_comparison_56 c_Gra_102 rfl ⟨_, rfl, rfl⟩ (Nat.le_of_ble_eq_true rfl) (t_Tex_addStep (by omega) (by omega) ?_)
            refine j_pop d_Gra_comparison_59 rfl ?_
            refine z_iconst d_Gra_comparison_60 ?_
            rw [show z + (a.2.length : Int) + (b.2.length : Int) + 1 = z + (((cmX (C t) a b).2 z).length : Int) by show _ = z + ((a.2 ++ b.2 ++ [(C t - 100, 0)]).length : Int); rw [len1, len2]; omega]
            exact z_zreturn rfl (Or.inr rfl) d_Gra_comparison_61 (hok _ _ _ _ _ (pPb_c4 hnb hq hop hq2) (((hA.keep hB2).app hA2).push (by rw [len2]; omega)) (fun j hj => ⟨(up_ne (by omega)).trans ((hB2 j (by omega)).1.trans (hB j hj).1), (up_ne (by omega)).trans ((hB2 j (by omega)).2.trans (hB j hj).2)⟩) (by show ((a.2 ++ b.2 ++ [(C t - 100, 0)]).length : Int) ≤ _; rw [len1, len2]; omega))
          · refine z_if_ne (t := 50) d_Gra_comparison_45 (by decide) (by first | omega | exact hw _ | exact hx _ _ | assumption) (fun h => absurd h (by decide)) (fun _ => ?_)
            refine z_iconst d_Gra_comparison_48 ?_
            exact z_zreturn rfl (Or.inl rfl) d_Gra_comparison_49 (her t2 (pPb_c3 hnb hq hop hq2) _ _ _ _ _ _ _)
        · have hno : ¬ (C t = 160 ∨ C t = 162 ∨ C t = 161) := fun q => by
            rcases q with q | q | q
            · exact absurd (h60.mpr q) (by omega)
            · exact absurd (h62.mpr q) (by omega)
            · exact absurd (h61.mpr q) (by omega)
          refine j_aload_n d_Gra_comparison_32 rfl ?_
          refine v_call0 d_Gra_comparison_33 c_Gra_65 rfl ⟨_, rfl, rfl⟩ (Nat.le_of_ble_eq_true rfl) (t_Gra_fail hT hpn (by omega) (by omega) ?_)
          exact z_zreturn rfl (Or.inl rfl) d_Gra_comparison_36 (her t (pPb_c2 hnb hq hno) _ _ _ _ _ _ _)
  · refine z_if_ne (t := 9) d_Gra_comparison_4 (by decide) (by first | omega | exact hw _ | exact hx _ _ | assumption) (fun h => absurd h (by decide)) (fun _ => ?_)
    refine z_iconst d_Gra_comparison_7 ?_
    exact z_zreturn rfl (Or.inl rfl) d_Gra_comparison_8 (her t (pPb_c1 hnb hq) _ _ _ _ _ _ _)
theorem sj_plain {g : Bool} {d : Nat} {Q : List xM → Option Value → Prop} {fl oo ne tc pz pn : Int} {kn ff sc ts mm st vl by_ tk ps pv pw : Int → Int} {C V : Int → Int} {N : Int} (hT : TkH C V N tk pv) (hpn : pn = N + 1) {S_ : Int → Int → PR SXC} {T_ : Int → Int → PR TXC} (hS : MGS g m_Gra_sum (d + 10) ne fl oo tc pz pn kn ff sc ts mm by_ tk ps pv pw C N S_) (hG : GP N S_) (hTT : ne < 8 → MGT g m_Gra_test (d + 11) (ne + 1) fl oo tc pz pn kn ff sc ts mm by_ tk ps pv pw C N T_) (hGT : GP N T_) (h8 : ne = 8 → ∀ x y, T_ x y = .inr (x - 1)) (e0 : 0 ≤ ne) (e1 : ne ≤ 8) {ti lv z par : Int} (hpar : par = 0 ∨ par = 1) (k0 : 1 ≤ ti) (k1 : ti ≤ N) (v0 : 0 ≤ lv) (v1 : lv ≤ 50) (z0_ : 0 ≤ z) (z1_ : z ≤ ti) (z2_ : z ≤ ti - par) (hok : ∀ (a : TXC) (t l : Int) (st_ vl_ : Int → Int), pPb C S_ T_ ti lv = .inl (a, t, l) → At st_ vl_ z ((if par = 1 then ntX a else a).2 z) → (∀ j, j < z → st_ j = st j ∧ vl_ j = vl j) → (((if par = 1 then ntX a else a).2 z).length : Int) ≤ t - ti + par → Q (W_GR fl oo t (tkF C N t) l ne tc (z + (((if par = 1 then ntX a else a).2 z).length : Int)) pz pn kn ff sc ts mm st_ vl_ by_ tk ps pv pw) (some (.int (ii 1)))) (her : ∀ (t : Int), pPb C S_ T_ ti lv = .inr t → ∀ (nx_ tn_ pp_ ne_ sz_ : Int) (st_ vl_ : Int → Int), Q (W_GR (ps t) oo nx_ tn_ pp_ ne_ tc sz_ pz pn kn ff sc ts mm st_ vl_ by_ tk ps pv pw) (some (.int (ii 0)))) : SJ g m_Gra_plain (d + 12) 41 [some (.ref 0), some (.int (ii par)), none] [] (W_GR fl oo ti (tkF C N ti) lv ne tc z pz pn kn ff sc ts mm st vl by_ tk ps pv pw) 0 0 Q := by
  have hN := hT.1
  have hR := hT.R (show 0 ≤ ti by omega)
  have h40 := hT.b (show 0 ≤ ti by omega) k1 (b := 40) (by decide) (by decide)
  have h41 : ∀ t, 0 ≤ t → t ≤ N → (tkF C N t = 41 ↔ C t = 141) := fun t a b => hT.b a b (b := 41) (by decide) (by decide)
  refine j_aload_n d_Gra_plain_41 rfl ?_
  refine gf_GR_0_5 f_Gra_29 d_Gra_plain_42 ?_
  refine z_bipush d_Gra_plain_45 (by decide) ?_
  refine z_icmp_ne (t := 92) d_Gra_plain_47 (by decide) (by first | omega | exact hw _ | exact hx _ _ | assumption) (by first | omega | exact hw _ | exact hx _ _ | assumption) (fun h47 => ?_) (fun h47 => ?_)
  · have hnb : ¬ C ti = 140 := fun q => absurd (h40.mpr q) (by omega)
    refine j_aload_n d_Gra_plain_92 rfl ?_
    refine v_call0 d_Gra_plain_93 c_Gra_130 rfl ⟨_, rfl, rfl⟩ (Nat.le_of_ble_eq_true rfl) (t_Gra_comparison (T_ := T_) hT hpn hS hG k0 k1 v0 v1 z0_ (by omega) hnb (fun a t l st2 vl2 hq92 hA hB hC => ?_) (fun t hq92 nx2 tn2 pp2 ne2 sz2 st2 vl2 => ?_))
    · refine j_istore_n d_Gra_plain_96 (by decide) ?_
      show SJ _ _ _ _ [_, _, _] _ _ _ _ _
      refine j_iload_n d_Gra_plain_97 rfl ?_
      refine z_if_eq (t := 116) d_Gra_plain_98 (by decide) (by first | omega | exact hw _ | exact hx _ _ | assumption) (fun h => absurd h (by decide)) (fun _ => ?_)
      refine j_iload_n d_Gra_plain_101 rfl ?_
      refine z_if_eq (t := 116) d_Gra_plain_102 (by decide) (by first | omega | exact hw _ | exact hx _ _ | assumption) (fun h102 => ?_) (fun h102 => ?_)
      · refine j_iload_n d_Gra_plain_116 rfl ?_
        first
        | (have hp0 : par = 0 := by omega
           subst hp0
           exact z_zreturn rfl (Or.inr rfl) d_Gra_plain_117 (hok _ _ _ _ _ hq92 hA hB (by show ((a.2 z).length : Int) ≤ _; omega)))
        | (have hp1 : par = 1 := by omega
           subst hp1
           rw [show z + ((a.2 z).length : Int) + 1 = z + (((ntX a).2 z).length : Int) by show _ = z + ((a.2 z ++ [(33, 0)]).length : Int); rw [len1]; omega]
           exact z_zreturn rfl (Or.inr rfl) d_Gra_plain_117 (hok _ _ _ _ _ hq92 (hA.push (by omega)) (fun j hj => ⟨(up_ne (by omega)).trans (hB j hj).1, (up_ne (by omega)).trans (hB j hj).2⟩) (by show ((a.2 z ++ [(33, 0)]).length : Int) ≤ _; rw [len1]; omega)))
      · have hgb := (pPb_R hT.2.1 hG hGT ti lv k0 k1 v0 v1).1 _ _ _ hq92
        refine j_aload_n d_Gra_plain_105 rfl ?_
        refine gf_GR_0_0 f_Gra_12 d_Gra_plain_106 ?_
        refine z_bipush d_Gra_plain_109 (by decide) ?_
        refine z_iconst d_Gra_plain_111 ?_
        refine v_call2 d_Gra_plain_112 c_Gra_102 rfl ⟨_, rfl, rfl⟩ (Nat.le_of_ble_eq_true rfl) (t_Tex_addStep (by omega) (by omega) ?_)
        refine j_pop d_Gra_plain_115 rfl ?_
        refine j_iload_n d_Gra_plain_116 rfl ?_
        first
        | (have hp0 : par = 0 := by omega
           subst hp0
           exact z_zreturn rfl (Or.inr rfl) d_Gra_plain_117 (hok _ _ _ _ _ hq92 hA hB (by show ((a.2 z).length : Int) ≤ _; omega)))
        | (have hp1 : par = 1 := by omega
           subst hp1
           rw [show z + ((a.2 z).length : Int) + 1 = z + (((ntX a).2 z).length : Int) by show _ = z + ((a.2 z ++ [(33, 0)]).length : Int); rw [len1]; omega]
           exact z_zreturn rfl (Or.inr rfl) d_Gra_plain_117 (hok _ _ _ _ _ hq92 (hA.push (by omega)) (fun j hj => ⟨(up_ne (by omega)).trans (hB j hj).1, (up_ne (by omega)).trans (hB j hj).2⟩) (by show ((a.2 z ++ [(33, 0)]).length : Int) ≤ _; rw [len1]; omega)))
    · refine j_istore_n d_Gra_plain_96 (by decide) ?_
      show SJ _ _ _ _ [_, _, _] _ _ _ _ _
      refine j_iload_n d_Gra_plain_97 rfl ?_
      refine z_if_eq (t := 116) d_Gra_plain_98 (by decide) (by first | omega | exact hw _ | exact hx _ _ | assumption) (fun _ => ?_) (fun h => absurd h (by decide))
      refine j_iload_n d_Gra_plain_116 rfl ?_
      first
      | exact z_zreturn rfl (Or.inl rfl) d_Gra_plain_117 (her t (pPb_brE hc hq) _ _ _ _ _ _ _)
      | exact z_zreturn rfl (Or.inl rfl) d_Gra_plain_117 (her t (pPb_brN hc hq h67) _ _ _ _ _ _ _)
      | exact z_zreturn rfl (Or.inl rfl) d_Gra_plain_117 (her ti (pPb_brE hc (by rw [h8 h51, show ti + 1 - 1 = ti by omega])) _ _ _ _ _ _ _)
      | exact z_zreturn rfl (Or.inl rfl) d_Gra_plain_117 (her t hq92 _ _ _ _ _ _ _)
  · have hc : C ti = 140 := h40.mp (by omega)
    have hlt : ti < N := hT.lt k1 (by omega)
    refine j_aload_n d_Gra_plain_50 rfl ?_
    refine v_call0 d_Gra_plain_51 c_Gra_127 rfl ⟨_, rfl, rfl⟩ (Nat.le_of_ble_eq_true rfl) (t_Gra_openBracket hT hpn (by omega) hlt e0 e1 (fun h51 => ?_) (fun h51 => ?_))
    · refine z_if_eq (t := 77) d_Gra_plain_54 (by decide) (by first | omega | exact hw _ | exact hx _ _ | assumption) (fun h => absurd h (by decide)) (fun _ => ?_)
      refine j_aload_n d_Gra_plain_57 rfl ?_
      refine v_call0 d_Gra_plain_58 c_Gra_99 rfl ⟨_, rfl, rfl⟩ (Nat.le_of_ble_eq_true rfl) (hTT h51 (ti + 1) lv z st vl _ (by omega) (by omega) v0 v1 z0_ (by omega) (fun a t l st2 vl2 hq hA hB hC => ?_) (fun t hq nx2 tn2 pp2 ne2 sz2 st2 vl2 => ?_))
      · refine z_if_eq (t := 77) d_Gra_plain_61 (by decide) (by first | omega | exact hw _ | exact hx _ _ | assumption) (fun h => absurd h (by decide)) (fun _ => ?_)
        have hG58 := (hGT (ti + 1) lv (by omega) (by omega) v0 v1).1 _ _ _ hq
        refine j_aload_n d_Gra_plain_64 rfl ?_
        refine z_bipush d_Gra_plain_65 (by decide) ?_
        refine v_call1 d_Gra_plain_67 c_Gra_61 rfl ⟨_, rfl, rfl⟩ (Nat.le_of_ble_eq_true rfl) (t_Gra_take hT hpn (by omega) (by omega) (h41 t (by omega) (by omega)) (by decide) (by omega) (fun h67 h67l => ?_) (fun h67 => ?_))
        · refine z_if_eq (t := 77) d_Gra_plain_70 (by decide) (by first | omega | exact hw _ | exact hx _ _ | assumption) (fun h => absurd h (by decide)) (fun _ => ?_)
          refine z_iconst d_Gra_plain_73 ?_
          refine j_goto (t := 78) d_Gra_plain_74 (by decide) ?_
          refine j_istore_n d_Gra_plain_78 (by decide) ?_
          show SJ _ _ _ _ [_, _, _] _ _ _ _ _
          refine j_aload_n d_Gra_plain_79 rfl ?_
          refine j_dup d_Gra_plain_80 rfl ?_
          refine gf_GR_0_7 f_Gra_35 d_Gra_plain_81 ?_
          refine z_iconst d_Gra_plain_84 ?_
          refine z_isub d_Gra_plain_85 ?_
          refine pf_GR_0_7 f_Gra_35 d_Gra_plain_86 ?_
          rw [show ne + 1 - 1 = ne by omega]
          refine j_goto (t := 97) d_Gra_plain_89 (by decide) ?_
          refine j_iload_n d_Gra_plain_97 rfl ?_
          refine z_if_eq (t := 116) d_Gra_plain_98 (by decide) (by first | omega | exact hw _ | exact hx _ _ | assumption) (fun h => absurd h (by decide)) (fun _ => ?_)
          refine j_iload_n d_Gra_plain_101 rfl ?_
          refine z_if_eq (t := 116) d_Gra_plain_102 (by decide) (by first | omega | exact hw _ | exact hx _ _ | assumption) (fun h102 => ?_) (fun h102 => ?_)
          · refine j_iload_n d_Gra_plain_116 rfl ?_
            first
            | (have hp0 : par = 0 := by omega
               subst hp0
               exact z_zreturn rfl (Or.inr rfl) d_Gra_plain_117 (hok _ _ _ _ _ (pPb_br hc hq h67) hA hB (by show ((a.2 z).length : Int) ≤ _; omega)))
            | (have hp1 : par = 1 := by omega
               subst hp1
               rw [show z + ((a.2 z).length : Int) + 1 = z + (((ntX a).2 z).length : Int) by show _ = z + ((a.2 z ++ [(33, 0)]).length : Int); rw [len1]; omega]
               exact z_zreturn rfl (Or.inr rfl) d_Gra_plain_117 (hok _ _ _ _ _ (pPb_br hc hq h67) (hA.push (by omega)) (fun j hj => ⟨(up_ne (by omega)).trans (hB j hj).1, (up_ne (by omega)).trans (hB j hj).2⟩) (by show ((a.2 z ++ [(33, 0)]).length : Int) ≤ _; rw [len1]; omega)))
          · refine j_aload_n d_Gra_plain_105 rfl ?_
            refine gf_GR_0_0 f_Gra_12 d_Gra_plain_106 ?_
            refine z_bipush d_Gra_plain_109 (by decide) ?_
            refine z_iconst d_Gra_plain_111 ?_
            refine v_call2 d_Gra_plain_112 c_Gra_102 rfl ⟨_, rfl, rfl⟩ (Nat.le_of_ble_eq_true rfl) (t_Tex_addStep (by omega) (by omega) ?_)
            refine j_pop d_Gra_plain_115 rfl ?_
            refine j_iload_n d_Gra_plain_116 rfl ?_
            first
            | (have hp0 : par = 0 := by omega
               subst hp0
               exact z_zreturn rfl (Or.inr rfl) d_Gra_plain_117 (hok _ _ _ _ _ (pPb_br hc hq h67) hA hB (by show ((a.2 z).length : Int) ≤ _; omega)))
            | (have hp1 : par = 1 := by omega
               subst hp1
               rw [show z + ((a.2 z).length : Int) + 1 = z + (((ntX a).2 z).length : Int) by show _ = z + ((a.2 z ++ [(33, 0)]).length : Int); rw [len1]; omega]
               exact z_zreturn rfl (Or.inr rfl) d_Gra_plain_117 (hok _ _ _ _ _ (pPb_br hc hq h67) (hA.push (by omega)) (fun j hj => ⟨(up_ne (by omega)).trans (hB j hj).1, (up_ne (by omega)).trans (hB j hj).2⟩) (by show ((a.2 z ++ [(33, 0)]).length : Int) ≤ _; rw [len1]; omega)))
        · refine z_if_eq (t := 77) d_Gra_plain_70 (by decide) (by first | omega | exact hw _ | exact hx _ _ | assumption) (fun _ => ?_) (fun h => absurd h (by decide))
          refine z_iconst d_Gra_plain_77 ?_
          refine j_istore_n d_Gra_plain_78 (by decide) ?_
          show SJ _ _ _ _ [_, _, _] _ _ _ _ _
          refine j_aload_n d_Gra_plain_79 rfl ?_
          refine j_dup d_Gra_plain_80 rfl ?_
          refine gf_GR_0_7 f_Gra_35 d_Gra_plain_81 ?_
          refine z_iconst d_Gra_plain_84 ?_
          refine z_isub d_Gra_plain_85 ?_
          refine pf_GR_0_7 f_Gra_35 d_Gra_plain_86 ?_
          refine j_goto (t := 97) d_Gra_plain_89 (by decide) ?_
          refine j_iload_n d_Gra_plain_97 rfl ?_
          refine z_if_eq (t := 116) d_Gra_plain_98 (by decide) (by first | omega | exact hw _ | exact hx _ _ | assumption) (fun _ => ?_) (fun h => absurd h (by decide))
          refine j_iload_n d_Gra_plain_116 rfl ?_
          first
          | exact z_zreturn rfl (Or.inl rfl) d_Gra_plain_117 (her t (pPb_brE hc hq) _ _ _ _ _ _ _)
          | exact z_zreturn rfl (Or.inl rfl) d_Gra_plain_117 (her t (pPb_brN hc hq h67) _ _ _ _ _ _ _)
          | exact z_zreturn rfl (Or.inl rfl) d_Gra_plain_117 (her ti (pPb_brE hc (by rw [h8 h51, show ti + 1 - 1 = ti by omega])) _ _ _ _ _ _ _)
          | exact z_zreturn rfl (Or.inl rfl) d_Gra_plain_117 (her t hq92 _ _ _ _ _ _ _)
      · refine z_if_eq (t := 77) d_Gra_plain_61 (by decide) (by first | omega | exact hw _ | exact hx _ _ | assumption) (fun _ => ?_) (fun h => absurd h (by decide))
        refine z_iconst d_Gra_plain_77 ?_
        refine j_istore_n d_Gra_plain_78 (by decide) ?_
        show SJ _ _ _ _ [_, _, _] _ _ _ _ _
        refine j_aload_n d_Gra_plain_79 rfl ?_
        refine j_dup d_Gra_plain_80 rfl ?_
        refine gf_GR_0_7 f_Gra_35 d_Gra_plain_81 ?_
        refine z_iconst d_Gra_plain_84 ?_
        refine z_isub d_Gra_plain_85 ?_
        refine pf_GR_0_7 f_Gra_35 d_Gra_plain_86 ?_
        refine j_goto (t := 97) d_Gra_plain_89 (by decide) ?_
        refine j_iload_n d_Gra_plain_97 rfl ?_
        refine z_if_eq (t := 116) d_Gra_plain_98 (by decide) (by first | omega | exact hw _ | exact hx _ _ | assumption) (fun _ => ?_) (fun h => absurd h (by decide))
        refine j_iload_n d_Gra_plain_116 rfl ?_
        first
        | exact z_zreturn rfl (Or.inl rfl) d_Gra_plain_117 (her t (pPb_brE hc hq) _ _ _ _ _ _ _)
        | exact z_zreturn rfl (Or.inl rfl) d_Gra_plain_117 (her t (pPb_brN hc hq h67) _ _ _ _ _ _ _)
        | exact z_zreturn rfl (Or.inl rfl) d_Gra_plain_117 (her ti (pPb_brE hc (by rw [h8 h51, show ti + 1 - 1 = ti by omega])) _ _ _ _ _ _ _)
        | exact z_zreturn rfl (Or.inl rfl) d_Gra_plain_117 (her t hq92 _ _ _ _ _ _ _)
    · refine z_if_eq (t := 77) d_Gra_plain_54 (by decide) (by first | omega | exact hw _ | exact hx _ _ | assumption) (fun _ => ?_) (fun h => absurd h (by decide))
      refine z_iconst d_Gra_plain_77 ?_
      refine j_istore_n d_Gra_plain_78 (by decide) ?_
      show SJ _ _ _ _ [_, _, _] _ _ _ _ _
      refine j_aload_n d_Gra_plain_79 rfl ?_
      refine j_dup d_Gra_plain_80 rfl ?_
      refine gf_GR_0_7 f_Gra_35 d_Gra_plain_81 ?_
      refine z_iconst d_Gra_plain_84 ?_
      refine z_isub d_Gra_plain_85 ?_
      refine pf_GR_0_7 f_Gra_35 d_Gra_plain_86 ?_
      refine j_goto (t := 97) d_Gra_plain_89 (by decide) ?_
      refine j_iload_n d_Gra_plain_97 rfl ?_
      refine z_if_eq (t := 116) d_Gra_plain_98 (by decide) (by first | omega | exact hw _ | exact hx _ _ | assumption) (fun _ => ?_) (fun h => absurd h (by decide))
      refine j_iload_n d_Gra_plain_116 rfl ?_
      first
      | exact z_zreturn rfl (Or.inl rfl) d_Gra_plain_117 (her t (pPb_brE hc hq) _ _ _ _ _ _ _)
      | exact z_zreturn rfl (Or.inl rfl) d_Gra_plain_117 (her t (pPb_brN hc hq h67) _ _ _ _ _ _ _)
      | exact z_zreturn rfl (Or.inl rfl) d_Gra_plain_117 (her ti (pPb_brE hc (by rw [h8 h51, show ti + 1 - 1 = ti by omega])) _ _ _ _ _ _ _)
      | exact z_zreturn rfl (Or.inl rfl) d_Gra_plain_117 (her t hq92 _ _ _ _ _ _ _)
theorem lp_plain {g : Bool} {d : Nat} {Q : List xM → Option Value → Prop} {fl oo ne tc pz pn : Int} {kn ff sc ts mm st vl by_ tk ps pv pw : Int → Int} {C V : Int → Int} {N : Int} (hT : TkH C V N tk pv) (hpn : pn = N + 1) {lv z : Int} {R2 : Int × Int} (hkk : SJ g m_Gra_plain (d + 12) 41 [some (.ref 0), some (.int (ii R2.1)), none] [] (W_GR fl oo R2.2 (tkF C N R2.2) lv ne tc z pz pn kn ff sc ts mm st vl by_ tk ps pv pw) 0 0 Q) : ∀ (nn : Nat) (ti : Int) (par : Int) (ci : Int) (k : Nat), (N - ti).toNat = nn → 1 ≤ ti → ti ≤ N → (par = 0 ∨ par = 1) → 0 ≤ ci → ci < ti → N - ti ≤ (k : Int) → pNo C (k + 1) par ti = R2 → SJ g m_Gra_plain (d + 12) 4 [some (.ref 0), some (.int (ii par)), some (.int (ii ci))] [] (W_GR fl oo ti (tkF C N ti) lv ne tc z pz pn kn ff sc ts mm st vl by_ tk ps pv pw) 0 0 Q := by
  intro nn
  induction nn using Nat.strongRecOn with
  | ind nn ih =>
  intro ti par ci k hn a1 a2 hp a5 a6 a7 hR
  have hN := hT.1
  have hRR := hT.R (show 0 ≤ ti by omega)
  have h8_ := hT.w (show 0 ≤ ti by omega) a2 (w := 8) (v := 267) (by decide) (by decide) (by decide)
  refine j_iload_n d_Gra_plain_4 rfl ?_
  refine z_sipush d_Gra_plain_5 (by decide) ?_
  refine z_icmp_ge (t := 41) d_Gra_plain_8 (by decide) (by first | omega | exact hw _ | exact hx _ _ | assumption) (by first | omega | exact hw _ | exact hx _ _ | assumption) (fun h8 => ?_) (fun h8 => ?_)
  · exfalso
    omega
  · refine j_aload_n d_Gra_plain_11 rfl ?_
    refine gf_GR_0_5 f_Gra_29 d_Gra_plain_12 ?_
    refine z_sipush d_Gra_plain_15 (by decide) ?_
    refine z_icmp_ne (t := 41) d_Gra_plain_18 (by decide) (by first | omega | exact hw _ | exact hx _ _ | assumption) (by first | omega | exact hw _ | exact hx _ _ | assumption) (fun h18 => ?_) (fun h18 => ?_)
    · have hns : ¬ C ti = 8 := fun q => absurd (h8_.mpr q) (by omega)
      have e_ : pNo C (k + 1) par ti = (par, ti) := if_neg hns
      rw [e_] at hR
      subst hR
      refine SJ.mask [true, true, false] ?_
      show SJ _ _ _ _ [_, _, none] _ _ _ _ _
      exact hkk
    · have hcn : C ti = 8 := h8_.mp (by omega)
      have hlt : ti < N := hT.lt a2 (by omega)
      obtain ⟨k, rfl⟩ : ∃ j, k = j + 1 := ⟨k - 1, by omega⟩
      refine j_iload_n d_Gra_plain_21 rfl ?_
      refine z_if_ne (t := 29) d_Gra_plain_22 (by decide) (by first | omega | exact hw _ | exact hx _ _ | assumption) (fun h22 => ?_) (fun h22 => ?_)
      · refine z_iconst d_Gra_plain_29 ?_
        refine j_istore_n d_Gra_plain_30 (by decide) ?_
        show SJ _ _ _ _ [_, _, _] _ _ _ _ _
        refine j_aload_n d_Gra_plain_31 rfl ?_
        refine v_call0 d_Gra_plain_32 c_Gra_74 rfl ⟨_, rfl, rfl⟩ (Nat.le_of_ble_eq_true rfl) (t_Gra_advance hT hpn (by omega) hlt ?_)
        refine z_iinc d_Gra_plain_35 rfl (by decide) ?_
        show SJ _ _ _ _ [_, _, _] _ _ _ _ _
        refine j_goto (t := 4) d_Gra_plain_38 (by decide) ?_
        exact ih _ (by omega) (ti + 1) 0 (ci + 1) k rfl (by omega) (by omega) (by decide) (by omega) (by omega) (by omega) (by rw [← hR, show pNo C (k + 1 + 1) par ti = pNo C (k + 1) (1 - par) (ti + 1) from if_pos hcn, show (1 : Int) - par = 0 by omega])
      · refine z_iconst d_Gra_plain_25 ?_
        refine j_goto (t := 30) d_Gra_plain_26 (by decide) ?_
        refine j_istore_n d_Gra_plain_30 (by decide) ?_
        show SJ _ _ _ _ [_, _, _] _ _ _ _ _
        refine j_aload_n d_Gra_plain_31 rfl ?_
        refine v_call0 d_Gra_plain_32 c_Gra_74 rfl ⟨_, rfl, rfl⟩ (Nat.le_of_ble_eq_true rfl) (t_Gra_advance hT hpn (by omega) hlt ?_)
        refine z_iinc d_Gra_plain_35 rfl (by decide) ?_
        show SJ _ _ _ _ [_, _, _] _ _ _ _ _
        refine j_goto (t := 4) d_Gra_plain_38 (by decide) ?_
        exact ih _ (by omega) (ti + 1) 1 (ci + 1) k rfl (by omega) (by omega) (by decide) (by omega) (by omega) (by omega) (by rw [← hR, show pNo C (k + 1 + 1) par ti = pNo C (k + 1) (1 - par) (ti + 1) from if_pos hcn, show (1 : Int) - par = 1 by omega])
theorem pNo_b {C : Int → Int} : ∀ (k : Nat) (par tk : Int), (par = 0 ∨ par = 1) → ((pNo C k par tk).1 = 0 ∨ (pNo C k par tk).1 = 1)
  | 0, par, tk, h => h
  | k + 1, par, tk, h => by
    simp only [pNo]
    split
    · exact pNo_b k (1 - par) (tk + 1) (by omega)
    · exact h
theorem t_Gra_plain {g : Bool} {d : Nat} {Q : List xM → Option Value → Prop} {fl oo ne tc pz pn : Int} {kn ff sc ts mm st vl by_ tk ps pv pw : Int → Int} {C V : Int → Int} {N : Int} (hT : TkH C V N tk pv) (hpn : pn = N + 1) {S_ : Int → Int → PR SXC} {T_ : Int → Int → PR TXC} (hS : MGS g m_Gra_sum (d + 10) ne fl oo tc pz pn kn ff sc ts mm by_ tk ps pv pw C N S_) (hG : GP N S_) (hTT : ne < 8 → MGT g m_Gra_test (d + 11) (ne + 1) fl oo tc pz pn kn ff sc ts mm by_ tk ps pv pw C N T_) (hGT : GP N T_) (h8 : ne = 8 → ∀ x y, T_ x y = .inr (x - 1)) (e0 : 0 ≤ ne) (e1 : ne ≤ 8) {ti lv z : Int} (k0 : 1 ≤ ti) (k1 : ti ≤ N) (v0 : 0 ≤ lv) (v1 : lv ≤ 50) (z0_ : 0 ≤ z) (z1_ : z ≤ ti) (hok : ∀ (a : TXC) (t l : Int) (st_ vl_ : Int → Int), pPl C S_ T_ ti lv = .inl (a, t, l) → At st_ vl_ z (a.2 z) → (∀ j, j < z → st_ j = st j ∧ vl_ j = vl j) → ((a.2 z).length : Int) ≤ t - ti → Q (W_GR fl oo t (tkF C N t) l ne tc (z + ((a.2 z).length : Int)) pz pn kn ff sc ts mm st_ vl_ by_ tk ps pv pw) (some (.int (ii 1)))) (her : ∀ (t : Int), pPl C S_ T_ ti lv = .inr t → ∀ (nx_ tn_ pp_ ne_ sz_ : Int) (st_ vl_ : Int → Int), Q (W_GR (ps t) oo nx_ tn_ pp_ ne_ tc sz_ pz pn kn ff sc ts mm st_ vl_ by_ tk ps pv pw) (some (.int (ii 0))))  : CT g m_Gra_plain (d + 12) [.ref 0] (W_GR fl oo ti (tkF C N ti) lv ne tc z pz pn kn ff sc ts mm st vl by_ tk ps pv pw) 0 0 Q := by
  refine CT.of (by decide) (Nat.le_of_ble_eq_true rfl) ?_
  show SJ _ _ _ _ [some (.ref 0), none, none] [] _ _ _ _
  have hnp := pNo_p (C := C) 401 0 ti
  have hno := pNo_R (C := C) (N := N) hT.2.1 401 0 ti k1
  refine z_iconst d_Gra_plain_0 ?_
  refine j_istore_n d_Gra_plain_1 (by decide) ?_
  show SJ _ _ _ _ [_, _, _] _ _ _ _ _
  refine z_iconst d_Gra_plain_2 ?_
  refine j_istore_n d_Gra_plain_3 (by decide) ?_
  show SJ _ _ _ _ [_, _, _] _ _ _ _ _
  have hb_ : (pNo C 401 0 ti).1 = 0 ∨ (pNo C 401 0 ti).1 = 1 := pNo_b 401 0 ti (Or.inl rfl)
  refine lp_plain hT hpn (R2 := pNo C 401 0 ti) ?_ _ ti 0 0 400 rfl k0 k1 (Or.inl rfl) (by omega) (by omega) (by have := hT.1; omega) rfl
  refine sj_plain hT hpn hS hG hTT hGT h8 e0 e1 (par := (pNo C 401 0 ti).1) hb_ (by omega) hno.2 v0 v1 z0_ (by omega) (by omega) (fun a t l st2 vl2 hq hA hB hC => ?_) (fun t hq => her t (pPl_er hq))
  exact hok _ t l st2 vl2 (pPl_go hq) hA hB (by omega)
theorem lp_both {g : Bool} {d : Nat} {Q : List xM → Option Value → Prop} {fl oo ne tc pz pn : Int} {kn ff sc ts mm by_ tk ps pv pw : Int → Int} {C V : Int → Int} {N : Int} (hT : TkH C V N tk pv) (hpn : pn = N + 1) {P_ : Int → Int → PR TXC} (hP : MGT g m_Gra_plain (d + 12) ne fl oo tc pz pn kn ff sc ts mm by_ tk ps pv pw C N P_) (hG : GP N P_) {ti0 z : Int} {st0 vl0 : Int → Int} {R_ : PR TXC} (z0_ : 0 ≤ z) (z1_ : z ≤ ti0) (hok : ∀ (a : TXC) (t l : Int) (st_ vl_ : Int → Int), R_ = .inl (a, t, l) → At st_ vl_ z (a.2 z) → (∀ j, j < z → st_ j = st0 j ∧ vl_ j = vl0 j) → ((a.2 z).length : Int) ≤ t - ti0 → Q (W_GR fl oo t (tkF C N t) l ne tc (z + ((a.2 z).length : Int)) pz pn kn ff sc ts mm st_ vl_ by_ tk ps pv pw) (some (.int (ii 1)))) (her : ∀ (t : Int), R_ = .inr t → ∀ (nx_ tn_ pp_ ne_ sz_ : Int) (st_ vl_ : Int → Int), Q (W_GR (ps t) oo nx_ tn_ pp_ ne_ tc sz_ pz pn kn ff sc ts mm st_ vl_ by_ tk ps pv pw) (some (.int (ii 0)))) : ∀ (nn : Nat) (ti : Int) (lv : Int) (e : TXC) (st : Int → Int) (vl : Int → Int) (ci : Int) (k : Nat), (N - ti).toNat = nn → 1 ≤ ti → ti ≤ N → 0 ≤ lv → lv ≤ 50 → 0 ≤ ci → ci < ti → N - ti ≤ (k : Int) → At st vl z (e.2 z) → (∀ j, j < z → st j = st0 j ∧ vl j = vl0 j) → ((e.2 z).length : Int) ≤ ti - ti0 → pLp C P_ isAnd (fun _ => anX) (k + 1) e ti lv = R_ → SJ g m_Gra_both (d + 13) 11 [some (.ref 0), some (.int (ii ci)), none] [] (W_GR fl oo ti (tkF C N ti) lv ne tc (z + ((e.2 z).length : Int)) pz pn kn ff sc ts mm st vl by_ tk ps pv pw) 0 0 Q := by
  intro nn
  induction nn using Nat.strongRecOn with
  | ind nn ih =>
  intro ti lv e st vl ci k hn a1 a2 a3 a4 a5 a6 a7 hA hB hL hR
  have hN := hT.1
  have hRR := hT.R (show 0 ≤ ti by omega)
  have hw_ := hT.w (show 0 ≤ ti by omega) a2 (w := 7) (v := 266) (by decide) (by decide) (by decide)
  refine j_iload_n d_Gra_both_11 rfl ?_
  refine z_sipush d_Gra_both_12 (by decide) ?_
  refine z_icmp_ge (t := 74) d_Gra_both_15 (by decide) (by first | omega | exact hw _ | exact hx _ _ | assumption) (by first | omega | exact hw _ | exact hx _ _ | assumption) (fun h15 => ?_) (fun h15 => ?_)
  · exfalso
    omega
  · refine j_aload_n d_Gra_both_18 rfl ?_
    refine gf_GR_0_5 f_Gra_29 d_Gra_both_19 ?_
    refine z_sipush d_Gra_both_22 (by decide) ?_
    refine z_icmp_ne (t := 74) d_Gra_both_25 (by decide) (by first | omega | exact hw _ | exact hx _ _ | assumption) (by first | omega | exact hw _ | exact hx _ _ | assumption) (fun h25 => ?_) (fun h25 => ?_)
    · have hns : ¬ isAnd (C ti) := fun q => absurd (hw_.mpr q) (by omega)
      rw [pLp_st hns] at hR
      refine z_iconst d_Gra_both_74 ?_
      exact z_zreturn rfl (Or.inr rfl) d_Gra_both_75 (hok e ti lv st vl hR.symm hA hB hL)
    · have hop : isAnd (C ti) := hw_.mp (by omega)
      have hop2 : C ti = 7 := hop
      have hlt : ti < N := hT.lt a2 (by omega)
      obtain ⟨k, rfl⟩ : ∃ j, k = j + 1 := ⟨k - 1, by omega⟩
      refine j_aload_n d_Gra_both_28 rfl ?_
      refine gf_GR_0_0 f_Gra_12 d_Gra_both_29 ?_
      refine z_bipush d_Gra_both_32 (by decide) ?_
      refine z_iconst d_Gra_both_34 ?_
      refine v_call2 d_Gra_both_35 c_Gra_102 rfl ⟨_, rfl, rfl⟩ (Nat.le_of_ble_eq_true rfl) (t_Tex_addStep (by omega) (by omega) ?_)
      refine j_istore_n d_Gra_both_38 (by decide) ?_
      show SJ _ _ _ _ [_, _, _] _ _ _ _ _
      refine j_aload_n d_Gra_both_39 rfl ?_
      refine v_call0 d_Gra_both_40 c_Gra_74 rfl ⟨_, rfl, rfl⟩ (Nat.le_of_ble_eq_true rfl) (t_Gra_advance hT hpn (by omega) hlt ?_)
      refine j_aload_n d_Gra_both_43 rfl ?_
      refine v_call0 d_Gra_both_44 c_Gra_124 rfl ⟨_, rfl, rfl⟩ (Nat.le_of_ble_eq_true rfl) (hP (ti + 1) lv (z + ((e.2 z).length : Int) + 1) (up st (z + ((e.2 z).length : Int)) 38) (up vl (z + ((e.2 z).length : Int)) 0) _ (by omega) (by omega) a3 a4 (by omega) (by omega) (fun a t l st2 vl2 hq hA2 hB2 hC2 => ?_) (fun t hq nx2 tn2 pp2 ne2 sz2 st2 vl2 => ?_))
      · refine z_if_ne (t := 52) d_Gra_both_47 (by decide) (by first | omega | exact hw _ | exact hx _ _ | assumption) (fun _ => ?_) (fun h => absurd h (by decide))
        have hg := (hG (ti + 1) lv (by omega) (by omega) a3 a4).1 _ _ _ hq
        rw [pLp_go hop hq] at hR
        refine j_aload_n d_Gra_both_52 rfl ?_
        refine gf_GR_0_0 f_Gra_12 d_Gra_both_53 ?_
        refine gf_GR_1_6 f_Gra_123 d_Gra_both_56 ?_
        refine j_iload_n d_Gra_both_59 rfl ?_
        refine j_aload_n d_Gra_both_60 rfl ?_
        refine gf_GR_0_0 f_Gra_12 d_Gra_both_61 ?_
        refine gf_GR_1_8 f_Gra_98 d_Gra_both_64 ?_
        refine as_GR_8 d_Gra_both_67 (by omega) (by omega) ?_
        refine z_iinc d_Gra_both_68 rfl (by decide) ?_
        show SJ _ _ _ _ [_, _, _] _ _ _ _ _
        refine j_goto (t := 11) d_Gra_both_71 (by decide) ?_
        refine SJ.mask [true, true, false] ?_
        show SJ _ _ _ _ [_, _, none] _ _ _ _ _
        have hjl : (((anX e a).2 z).length : Int) = ((e.2 z).length : Int) + 1 + ((a.2 (z + ((e.2 z).length : Int) + 1)).length : Int) := jnX_len (u := 38)
        rw [show z + ((e.2 z).length : Int) + 1 + ((a.2 (z + ((e.2 z).length : Int) + 1)).length : Int) = z + (((anX e a).2 z).length : Int) by rw [hjl]; omega]
        refine ih _ (by omega) t l (anX e a) _ _ (ci + 1) k rfl (by omega) (by omega) (by omega) (by omega) (by omega) (by omega) (by omega) ?_ (fun j hj => ⟨(hB2 j (by omega)).1.trans ((up_ne (by omega)).trans (hB j hj).1), (up_ne (by omega)).trans ((hB2 j (by omega)).2.trans ((up_ne (by omega)).trans (hB j hj).2))⟩) (by rw [hjl]; omega) hR
        rw [hjl, show z + (((e.2 z).length : Int) + 1 + ((a.2 (z + ((e.2 z).length : Int) + 1)).length : Int)) = z + ((e.2 z).length : Int) + 1 + ((a.2 (z + ((e.2 z).length : Int) + 1)).length : Int) by omega]
        exact At.jn rfl hA hB2 hA2
      · refine z_if_ne (t := 52) d_Gra_both_47 (by decide) (by first | omega | exact hw _ | exact hx _ _ | assumption) (fun h => absurd h (by decide)) (fun _ => ?_)
        refine z_iconst d_Gra_both_50 ?_
        exact z_zreturn rfl (Or.inl rfl) d_Gra_both_51 (her t (by rw [← hR, pLp_er hop hq]) _ _ _ _ _ _ _)
theorem t_Gra_both {g : Bool} {d : Nat} {Q : List xM → Option Value → Prop} {fl oo ne tc pz pn : Int} {kn ff sc ts mm st vl by_ tk ps pv pw : Int → Int} {C V : Int → Int} {N : Int} (hT : TkH C V N tk pv) (hpn : pn = N + 1) {P_ : Int → Int → PR TXC} (hP : MGT g m_Gra_plain (d + 12) ne fl oo tc pz pn kn ff sc ts mm by_ tk ps pv pw C N P_) (hG : GP N P_) {ti lv z : Int} (k0 : 1 ≤ ti) (k1 : ti ≤ N) (v0 : 0 ≤ lv) (v1 : lv ≤ 50) (z0_ : 0 ≤ z) (z1_ : z ≤ ti) (hok : ∀ (a : TXC) (t l : Int) (st_ vl_ : Int → Int), pLV C P_ isAnd (fun _ => anX) ti lv = .inl (a, t, l) → At st_ vl_ z (a.2 z) → (∀ j, j < z → st_ j = st j ∧ vl_ j = vl j) → ((a.2 z).length : Int) ≤ t - ti → Q (W_GR fl oo t (tkF C N t) l ne tc (z + ((a.2 z).length : Int)) pz pn kn ff sc ts mm st_ vl_ by_ tk ps pv pw) (some (.int (ii 1)))) (her : ∀ (t : Int), pLV C P_ isAnd (fun _ => anX) ti lv = .inr t → ∀ (nx_ tn_ pp_ ne_ sz_ : Int) (st_ vl_ : Int → Int), Q (W_GR (ps t) oo nx_ tn_ pp_ ne_ tc sz_ pz pn kn ff sc ts mm st_ vl_ by_ tk ps pv pw) (some (.int (ii 0))))  : CT g m_Gra_both (d + 13) [.ref 0] (W_GR fl oo ti (tkF C N ti) lv ne tc z pz pn kn ff sc ts mm st vl by_ tk ps pv pw) 0 0 Q := by
  refine CT.of (by decide) (Nat.le_of_ble_eq_true rfl) ?_
  show SJ _ _ _ _ [some (.ref 0), none, none] [] _ _ _ _
  have hN := hT.1
  refine j_aload_n d_Gra_both_0 rfl ?_
  refine v_call0 d_Gra_both_1 c_Gra_124 rfl ⟨_, rfl, rfl⟩ (Nat.le_of_ble_eq_true rfl) (hP ti lv z st vl _ k0 k1 v0 v1 z0_ z1_ (fun a t l st2 vl2 hq hA hB hC => ?_) (fun t hq nx2 tn2 pp2 ne2 sz2 st2 vl2 => ?_))
  · refine z_if_ne (t := 9) d_Gra_both_4 (by decide) (by first | omega | exact hw _ | exact hx _ _ | assumption) (fun _ => ?_) (fun h => absurd h (by decide))
    refine z_iconst d_Gra_both_9 ?_
    refine j_istore_n d_Gra_both_10 (by decide) ?_
    show SJ _ _ _ _ [_, _, _] _ _ _ _ _
    have hg := (hG ti lv k0 k1 v0 v1).1 _ _ _ hq
    exact lp_both hT hpn hP hG z0_ z1_ hok her _ t l a st2 vl2 0 400 rfl (by omega) (by omega) (by omega) (by omega) (by omega) (by omega) (by omega) hA hB hC (pLV_go hq).symm
  · refine z_if_ne (t := 9) d_Gra_both_4 (by decide) (by first | omega | exact hw _ | exact hx _ _ | assumption) (fun h => absurd h (by decide)) (fun _ => ?_)
    refine z_iconst d_Gra_both_7 ?_
    exact z_zreturn rfl (Or.inl rfl) d_Gra_both_8 (her t (pLV_er hq) _ _ _ _ _ _ _)
theorem lp_test {g : Bool} {d : Nat} {Q : List xM → Option Value → Prop} {fl oo ne tc pz pn : Int} {kn ff sc ts mm by_ tk ps pv pw : Int → Int} {C V : Int → Int} {N : Int} (hT : TkH C V N tk pv) (hpn : pn = N + 1) {P_ : Int → Int → PR TXC} (hP : MGT g m_Gra_both (d + 13) ne fl oo tc pz pn kn ff sc ts mm by_ tk ps pv pw C N P_) (hG : GP N P_) {ti0 z : Int} {st0 vl0 : Int → Int} {R_ : PR TXC} (z0_ : 0 ≤ z) (z1_ : z ≤ ti0) (hok : ∀ (a : TXC) (t l : Int) (st_ vl_ : Int → Int), R_ = .inl (a, t, l) → At st_ vl_ z (a.2 z) → (∀ j, j < z → st_ j = st0 j ∧ vl_ j = vl0 j) → ((a.2 z).length : Int) ≤ t - ti0 → Q (W_GR fl oo t (tkF C N t) l ne tc (z + ((a.2 z).length : Int)) pz pn kn ff sc ts mm st_ vl_ by_ tk ps pv pw) (some (.int (ii 1)))) (her : ∀ (t : Int), R_ = .inr t → ∀ (nx_ tn_ pp_ ne_ sz_ : Int) (st_ vl_ : Int → Int), Q (W_GR (ps t) oo nx_ tn_ pp_ ne_ tc sz_ pz pn kn ff sc ts mm st_ vl_ by_ tk ps pv pw) (some (.int (ii 0)))) : ∀ (nn : Nat) (ti : Int) (lv : Int) (e : TXC) (st : Int → Int) (vl : Int → Int) (ci : Int) (k : Nat), (N - ti).toNat = nn → 1 ≤ ti → ti ≤ N → 0 ≤ lv → lv ≤ 50 → 0 ≤ ci → ci < ti → N - ti ≤ (k : Int) → At st vl z (e.2 z) → (∀ j, j < z → st j = st0 j ∧ vl j = vl0 j) → ((e.2 z).length : Int) ≤ ti - ti0 → pLp C P_ isOr (fun _ => orX) (k + 1) e ti lv = R_ → SJ g m_Gra_test (d + 14) 11 [some (.ref 0), some (.int (ii ci)), none] [] (W_GR fl oo ti (tkF C N ti) lv ne tc (z + ((e.2 z).length : Int)) pz pn kn ff sc ts mm st vl by_ tk ps pv pw) 0 0 Q := by
  intro nn
  induction nn using Nat.strongRecOn with
  | ind nn ih =>
  intro ti lv e st vl ci k hn a1 a2 a3 a4 a5 a6 a7 hA hB hL hR
  have hN := hT.1
  have hRR := hT.R (show 0 ≤ ti by omega)
  have hw_ := hT.w (show 0 ≤ ti by omega) a2 (w := 6) (v := 265) (by decide) (by decide) (by decide)
  refine j_iload_n d_Gra_test_11 rfl ?_
  refine z_sipush d_Gra_test_12 (by decide) ?_
  refine z_icmp_ge (t := 74) d_Gra_test_15 (by decide) (by first | omega | exact hw _ | exact hx _ _ | assumption) (by first | omega | exact hw _ | exact hx _ _ | assumption) (fun h15 => ?_) (fun h15 => ?_)
  · exfalso
    omega
  · refine j_aload_n d_Gra_test_18 rfl ?_
    refine gf_GR_0_5 f_Gra_29 d_Gra_test_19 ?_
    refine z_sipush d_Gra_test_22 (by decide) ?_
    refine z_icmp_ne (t := 74) d_Gra_test_25 (by decide) (by first | omega | exact hw _ | exact hx _ _ | assumption) (by first | omega | exact hw _ | exact hx _ _ | assumption) (fun h25 => ?_) (fun h25 => ?_)
    · have hns : ¬ isOr (C ti) := fun q => absurd (hw_.mpr q) (by omega)
      rw [pLp_st hns] at hR
      refine z_iconst d_Gra_test_74 ?_
      exact z_zreturn rfl (Or.inr rfl) d_Gra_test_75 (hok e ti lv st vl hR.symm hA hB hL)
    · have hop : isOr (C ti) := hw_.mp (by omega)
      have hop2 : C ti = 6 := hop
      have hlt : ti < N := hT.lt a2 (by omega)
      obtain ⟨k, rfl⟩ : ∃ j, k = j + 1 := ⟨k - 1, by omega⟩
      refine j_aload_n d_Gra_test_28 rfl ?_
      refine gf_GR_0_0 f_Gra_12 d_Gra_test_29 ?_
      refine z_bipush d_Gra_test_32 (by decide) ?_
      refine z_iconst d_Gra_test_34 ?_
      refine v_call2 d_Gra_test_35 c_Gra_102 rfl ⟨_, rfl, rfl⟩ (Nat.le_of_ble_eq_true rfl) (t_Tex_addStep (by omega) (by omega) ?_)
      refine j_istore_n d_Gra_test_38 (by decide) ?_
      show SJ _ _ _ _ [_, _, _] _ _ _ _ _
      refine j_aload_n d_Gra_test_39 rfl ?_
      refine v_call0 d_Gra_test_40 c_Gra_74 rfl ⟨_, rfl, rfl⟩ (Nat.le_of_ble_eq_true rfl) (t_Gra_advance hT hpn (by omega) hlt ?_)
      refine j_aload_n d_Gra_test_43 rfl ?_
      refine v_call0 d_Gra_test_44 c_Gra_120 rfl ⟨_, rfl, rfl⟩ (Nat.le_of_ble_eq_true rfl) (hP (ti + 1) lv (z + ((e.2 z).length : Int) + 1) (up st (z + ((e.2 z).length : Int)) 124) (up vl (z + ((e.2 z).length : Int)) 0) _ (by omega) (by omega) a3 a4 (by omega) (by omega) (fun a t l st2 vl2 hq hA2 hB2 hC2 => ?_) (fun t hq nx2 tn2 pp2 ne2 sz2 st2 vl2 => ?_))
      · refine z_if_ne (t := 52) d_Gra_test_47 (by decide) (by first | omega | exact hw _ | exact hx _ _ | assumption) (fun _ => ?_) (fun h => absurd h (by decide))
        have hg := (hG (ti + 1) lv (by omega) (by omega) a3 a4).1 _ _ _ hq
        rw [pLp_go hop hq] at hR
        refine j_aload_n d_Gra_test_52 rfl ?_
        refine gf_GR_0_0 f_Gra_12 d_Gra_test_53 ?_
        refine gf_GR_1_6 f_Gra_123 d_Gra_test_56 ?_
        refine j_iload_n d_Gra_test_59 rfl ?_
        refine j_aload_n d_Gra_test_60 rfl ?_
        refine gf_GR_0_0 f_Gra_12 d_Gra_test_61 ?_
        refine gf_GR_1_8 f_Gra_98 d_Gra_test_64 ?_
        refine as_GR_8 d_Gra_test_67 (by omega) (by omega) ?_
        refine z_iinc d_Gra_test_68 rfl (by decide) ?_
        show SJ _ _ _ _ [_, _, _] _ _ _ _ _
        refine j_goto (t := 11) d_Gra_test_71 (by decide) ?_
        refine SJ.mask [true, true, false] ?_
        show SJ _ _ _ _ [_, _, none] _ _ _ _ _
        have hjl : (((orX e a).2 z).length : Int) = ((e.2 z).length : Int) + 1 + ((a.2 (z + ((e.2 z).length : Int) + 1)).length : Int) := jnX_len (u := 124)
        rw [show z + ((e.2 z).length : Int) + 1 + ((a.2 (z + ((e.2 z).length : Int) + 1)).length : Int) = z + (((orX e a).2 z).length : Int) by rw [hjl]; omega]
        refine ih _ (by omega) t l (orX e a) _ _ (ci + 1) k rfl (by omega) (by omega) (by omega) (by omega) (by omega) (by omega) (by omega) ?_ (fun j hj => ⟨(hB2 j (by omega)).1.trans ((up_ne (by omega)).trans (hB j hj).1), (up_ne (by omega)).trans ((hB2 j (by omega)).2.trans ((up_ne (by omega)).trans (hB j hj).2))⟩) (by rw [hjl]; omega) hR
        rw [hjl, show z + (((e.2 z).length : Int) + 1 + ((a.2 (z + ((e.2 z).length : Int) + 1)).length : Int)) = z + ((e.2 z).length : Int) + 1 + ((a.2 (z + ((e.2 z).length : Int) + 1)).length : Int) by omega]
        exact At.jn rfl hA hB2 hA2
      · refine z_if_ne (t := 52) d_Gra_test_47 (by decide) (by first | omega | exact hw _ | exact hx _ _ | assumption) (fun h => absurd h (by decide)) (fun _ => ?_)
        refine z_iconst d_Gra_test_50 ?_
        exact z_zreturn rfl (Or.inl rfl) d_Gra_test_51 (her t (by rw [← hR, pLp_er hop hq]) _ _ _ _ _ _ _)
theorem t_Gra_test {g : Bool} {d : Nat} {Q : List xM → Option Value → Prop} {fl oo ne tc pz pn : Int} {kn ff sc ts mm st vl by_ tk ps pv pw : Int → Int} {C V : Int → Int} {N : Int} (hT : TkH C V N tk pv) (hpn : pn = N + 1) {P_ : Int → Int → PR TXC} (hP : MGT g m_Gra_both (d + 13) ne fl oo tc pz pn kn ff sc ts mm by_ tk ps pv pw C N P_) (hG : GP N P_) {ti lv z : Int} (k0 : 1 ≤ ti) (k1 : ti ≤ N) (v0 : 0 ≤ lv) (v1 : lv ≤ 50) (z0_ : 0 ≤ z) (z1_ : z ≤ ti) (hok : ∀ (a : TXC) (t l : Int) (st_ vl_ : Int → Int), pLV C P_ isOr (fun _ => orX) ti lv = .inl (a, t, l) → At st_ vl_ z (a.2 z) → (∀ j, j < z → st_ j = st j ∧ vl_ j = vl j) → ((a.2 z).length : Int) ≤ t - ti → Q (W_GR fl oo t (tkF C N t) l ne tc (z + ((a.2 z).length : Int)) pz pn kn ff sc ts mm st_ vl_ by_ tk ps pv pw) (some (.int (ii 1)))) (her : ∀ (t : Int), pLV C P_ isOr (fun _ => orX) ti lv = .inr t → ∀ (nx_ tn_ pp_ ne_ sz_ : Int) (st_ vl_ : Int → Int), Q (W_GR (ps t) oo nx_ tn_ pp_ ne_ tc sz_ pz pn kn ff sc ts mm st_ vl_ by_ tk ps pv pw) (some (.int (ii 0))))  : CT g m_Gra_test (d + 14) [.ref 0] (W_GR fl oo ti (tkF C N ti) lv ne tc z pz pn kn ff sc ts mm st vl by_ tk ps pv pw) 0 0 Q := by
  refine CT.of (by decide) (Nat.le_of_ble_eq_true rfl) ?_
  show SJ _ _ _ _ [some (.ref 0), none, none] [] _ _ _ _
  have hN := hT.1
  refine j_aload_n d_Gra_test_0 rfl ?_
  refine v_call0 d_Gra_test_1 c_Gra_120 rfl ⟨_, rfl, rfl⟩ (Nat.le_of_ble_eq_true rfl) (hP ti lv z st vl _ k0 k1 v0 v1 z0_ z1_ (fun a t l st2 vl2 hq hA hB hC => ?_) (fun t hq nx2 tn2 pp2 ne2 sz2 st2 vl2 => ?_))
  · refine z_if_ne (t := 9) d_Gra_test_4 (by decide) (by first | omega | exact hw _ | exact hx _ _ | assumption) (fun _ => ?_) (fun h => absurd h (by decide))
    refine z_iconst d_Gra_test_9 ?_
    refine j_istore_n d_Gra_test_10 (by decide) ?_
    show SJ _ _ _ _ [_, _, _] _ _ _ _ _
    have hg := (hG ti lv k0 k1 v0 v1).1 _ _ _ hq
    exact lp_test hT hpn hP hG z0_ z1_ hok her _ t l a st2 vl2 0 400 rfl (by omega) (by omega) (by omega) (by omega) (by omega) (by omega) (by omega) hA hB hC (pLV_go hq).symm
  · refine z_if_ne (t := 9) d_Gra_test_4 (by decide) (by first | omega | exact hw _ | exact hx _ _ | assumption) (fun h => absurd h (by decide)) (fun _ => ?_)
    refine z_iconst d_Gra_test_7 ?_
    exact z_zreturn rfl (Or.inl rfl) d_Gra_test_8 (her t (pLV_er hq) _ _ _ _ _ _ _)
