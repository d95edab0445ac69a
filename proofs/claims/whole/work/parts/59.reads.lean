theorem E_GR_TP {g : Bool} {y : xY} {d : Nat} {args as2 : List Value} {Q : List xM → Option Value → Prop} {fl oo nx tn_ pp ne tc sz pz pn : Int} {kn ff sc ts mm st vl by_ tk ps pv pw : Int → Int} (h : ∀ Q2 : List xM → Option Value → Prop, (∀ (pz_ : Int) (pn_ : Int) (by__ : Int → Int) (tk_ : Int → Int) (ps_ : Int → Int) (pv_ : Int → Int) (pw_ : Int → Int) (r : Option Value), r.map (r_v (sgl [9, 10, 11, 12, 13, 14] 15)) = r → Q (W_GR fl oo nx tn_ pp ne tc sz pz_ pn_ kn ff sc ts mm st vl by__ tk_ ps_ pv_ pw_) r → Q2 (W_TP pz_ pn_ by__ tk_ ps_ pv_ pw_) r) → CT false y d args (W_TP pz pn by_ tk ps pv pw) 0 0 Q2) (ha2 : as2 = args.map (r_v (sgl [9, 10, 11, 12, 13, 14] 15))) : CT g y d as2 (W_GR fl oo nx tn_ pp ne tc sz pz pn kn ff sc ts mm st vl by_ tk ps pv pw) 0 0 Q :=
  CT.sub (sgl [9, 10, 11, 12, 13, 14] 15) (sgl_inj (by decide) (by decide)) (Emb.hs (Emb.cons rfl (Emb.cons rfl (Emb.cons rfl (Emb.cons rfl (Emb.cons rfl (Emb.cons rfl (Emb.nil)))))))) ha2 (h _ (fun _ _ _ _ _ _ _ r hr hq => ⟨rfl, by rw [hr]; exact hq⟩))
theorem lp_reads0 {g : Bool} {d : Nat} {Q : List xM → Option Value → Prop} {fl pz pn : Int} {by_ tk ps pv pw : Int → Int} {C V : Int → Int} {N : Int} (hT : TkH C V N tk pv) (hpn : pn = N + 1) {R_ : PR (List CXC)} (hok : ∀ (cs : List CXC) (t l sz_ nx_ tn_ pp_ : Int) (kn_ ff_ sc_ ts_ mm_ st_ vl_ : Int → Int), R_ = .inl (cs, t, l) → TxR 256 kn_ ff_ sc_ ts_ mm_ st_ vl_ 0 0 cs sz_ → sz_ ≤ 400 → cs.length ≤ 12 → Q (W_GR fl 0 nx_ tn_ pp_ 0 (cs.length : Int) sz_ pz pn kn_ ff_ sc_ ts_ mm_ st_ vl_ by_ tk ps pv pw) (some (.int (ii 1)))) (her : ∀ (t : Int), R_ = .inr t → 0 ≤ t → t ≤ N → ∀ (nx_ tn_ pp_ ne_ tc_ sz_ : Int) (kn_ ff_ sc_ ts_ mm_ st_ vl_ : Int → Int), Q (W_GR (ps t) 0 nx_ tn_ pp_ ne_ tc_ sz_ pz pn kn_ ff_ sc_ ts_ mm_ st_ vl_ by_ tk ps pv pw) (some (.int (ii 0)))) : ∀ (nn : Nat) (ti : Int) (lv : Int) (z : Int) (tc : Int) (cs : List CXC) (kn : Int → Int) (ff : Int → Int) (sc : Int → Int) (ts : Int → Int) (mm : Int → Int) (st : Int → Int) (vl : Int → Int) (k : Nat), (12 - tc).toNat = nn → 0 ≤ ti → ti ≤ N → 0 ≤ lv → lv ≤ 50 → 0 ≤ z → z ≤ ti → 0 ≤ tc → tc ≤ 12 → (cs.length : Int) = tc → (k : Int) + tc = 13 → TxR 256 kn ff sc ts mm st vl 0 0 cs z → Hd ((tc < 12 → rdG C V N 0 9 16 k (tc + 1) cs ti lv = R_) ∧ (tc = 12 → R_ = .inr ti)) → SJ g m_Gra_readsTape (d + 40) 62 [some (.ref 0), none, some (.int (ii tc))] [] (W_GR fl 0 ti (tkF C N ti) lv 0 tc z pz pn kn ff sc ts mm st vl by_ tk ps pv pw) 0 0 Q := by
  intro nn
  induction nn using Nat.strongRecOn with
  | ind nn ih =>
  intro ti lv z tc cs kn ff sc ts mm st vl k hn a1 a2 a3 a4 a5 a6 a7 a8 hcs hk hX hR
  have hN := hT.1
  refine j_iload_n d_Gra_readsTape_62 rfl ?_
  refine z_bipush d_Gra_readsTape_63 (by decide) ?_
  refine z_icmp_ge (t := 106) d_Gra_readsTape_65 (by decide) (by first | omega | exact hw _ | exact hx _ _ | assumption) (by first | omega | exact hw _ | exact hx _ _ | assumption) (fun h65 => ?_) (fun h65 => ?_)
  · have htc : tc = 12 := by omega
    refine j_aload_n d_Gra_readsTape_106 rfl ?_
    refine v_call0 d_Gra_readsTape_107 c_Gra_65 rfl ⟨_, rfl, rfl⟩ (Nat.le_of_ble_eq_true rfl) (t_Gra_fail hT hpn a1 a2 ?_)
    exact z_zreturn rfl (Or.inl rfl) d_Gra_readsTape_110 (her ti ((Hd.out hR).2 htc) a1 a2 _ _ _ _ _ _ _ _ _ _ _ _ _)
  · have hR1 := (Hd.out hR).1 (by omega)
    obtain ⟨k, rfl⟩ : ∃ j, k = j + 1 := ⟨k - 1, by omega⟩
    refine j_aload_n d_Gra_readsTape_68 rfl ?_
    refine v_call0 d_Gra_readsTape_69 c_Gra_57 rfl ⟨_, rfl, rfl⟩ (Nat.le_of_ble_eq_true rfl) (t_Gra_clause0 hT hpn a7 (by omega) a1 a2 a3 a4 a5 a6 (fun q t l kn2 ff2 sc2 ts2 mm2 st2 vl2 hq hCl hU hB hL => ?_) (fun t hq nx2 tn2 pp2 ne2 tc2 sz2 kn2 ff2 sc2 ts2 mm2 st2 vl2 => ?_))
    · refine z_if_ne (t := 77) d_Gra_readsTape_72 (by decide) (by first | omega | exact hw _ | exact hx _ _ | assumption) (fun _ => ?_) (fun h => absurd h (by decide))
      have hg := (pOne_R (C := C) (V := V) (io := 0) (fw := 9) (lw := 16) hT.2.1 (by decide) ti lv a1 a2 a3 a4).1 _ _ _ hq
      rw [rdG_go hq] at hR1
      have hRt := hT.R (show 0 ≤ t by omega)
      have hE := hT.end_ (show 0 ≤ t by omega) (show t ≤ N by omega)
      have hX2 : TxR 256 kn2 ff2 sc2 ts2 mm2 st2 vl2 0 0 (cs ++ [q]) (z + ((lyC z q).length : Int)) := hX.snoc cs 0 0 z (fun j hj => hU j (by omega)) hB (by rw [show (0 : Int) + (cs.length : Int) = tc by omega]; exact hCl)
      have hln : ((cs ++ [q]).length : Int) = tc + 1 := by rw [List.length_append]; show ((cs.length + 1 : Nat) : Int) = _; omega
      refine j_aload_n d_Gra_readsTape_77 rfl ?_
      refine gf_GR_0_5 f_Gra_29 d_Gra_readsTape_78 ?_
      refine z_sipush d_Gra_readsTape_81 (by decide) ?_
      refine z_icmp_ne (t := 89) d_Gra_readsTape_84 (by decide) (by first | omega | exact hw _ | exact hx _ _ | assumption) (by first | omega | exact hw _ | exact hx _ _ | assumption) (fun h84 => ?_) (fun h84 => ?_)
      · have hnend : t < N := by
          rcases Int.lt_or_eq_of_le hg.2.1 with q2 | q2
          · exact q2
          · exact absurd (hE.mpr q2) (by omega)
        refine j_aload_n d_Gra_readsTape_89 rfl ?_
        refine z_bipush d_Gra_readsTape_90 (by decide) ?_
        refine v_call1 d_Gra_readsTape_92 c_Gra_61 rfl ⟨_, rfl, rfl⟩ (Nat.le_of_ble_eq_true rfl) (t_Gra_take (w := 159) hT hpn (by omega) (by omega) (hT.b (by omega) (by omega) (by decide) (by decide)) (by decide) (by omega) (fun h92 h92l => ?_) (fun h92 => ?_))
        · refine z_if_ne (t := 100) d_Gra_readsTape_95 (by decide) (by first | omega | exact hw _ | exact hx _ _ | assumption) (fun _ => ?_) (fun h => absurd h (by decide))
          refine z_iinc d_Gra_readsTape_100 rfl (by decide) ?_
          show SJ _ _ _ _ [_, _, _] _ _ _ _ _
          refine j_goto (t := 62) d_Gra_readsTape_103 (by decide) ?_
          refine ih _ (by omega) (t + 1) l _ (tc + 1) (cs ++ [q]) _ _ _ _ _ _ _ k rfl (by omega) (by omega) (by omega) (by omega) (by omega) (by omega) (by omega) (by omega) hln (by omega) hX2 ⟨fun q1 => ?_, fun q1 => ?_⟩
          · rw [← hR1, rdE_go h92 (by omega)]
          · rw [← hR1, rdE_12 h92 (by omega)]
        · refine z_if_ne (t := 100) d_Gra_readsTape_95 (by decide) (by first | omega | exact hw _ | exact hx _ _ | assumption) (fun h => absurd h (by decide)) (fun _ => ?_)
          refine z_iconst d_Gra_readsTape_98 ?_
          exact z_zreturn rfl (Or.inl rfl) d_Gra_readsTape_99 (her t (by rw [← hR1, rdE_no h92 hnend]) (by omega) (by omega) _ _ _ _ _ _ _ _ _ _ _ _ _)
      · have hend : t = N := hE.mp (by omega)
        rw [rdE_end (by rw [hend, hT.2.1]; decide) (by omega)] at hR1
        rw [← hln]
        refine z_iconst d_Gra_readsTape_87 ?_
        exact z_zreturn rfl (Or.inr rfl) d_Gra_readsTape_88 (hok (cs ++ [q]) t l _ _ _ _ _ _ _ _ _ _ _ hR1.symm hX2 (by omega) (by omega))
    · refine z_if_ne (t := 77) d_Gra_readsTape_72 (by decide) (by first | omega | exact hw _ | exact hx _ _ | assumption) (fun h => absurd h (by decide)) (fun _ => ?_)
      refine z_iconst d_Gra_readsTape_75 ?_
      exact z_zreturn rfl (Or.inl rfl) d_Gra_readsTape_76 (her t (by rw [← hR1, rdG_er hq]) ((pOne_R (C := C) (V := V) (io := 0) (fw := 9) (lw := 16) hT.2.1 (by decide) ti lv a1 a2 a3 a4).2 _ hq).1 ((pOne_R (C := C) (V := V) (io := 0) (fw := 9) (lw := 16) hT.2.1 (by decide) ti lv a1 a2 a3 a4).2 _ hq).2 _ _ _ _ _ _ _ _ _ _ _ _ _)
theorem t_Gra_readsTape0 {g : Bool} {d : Nat} {Q : List xM → Option Value → Prop} {fl oo nx tn_ pp ne tc sz pz pn : Int} {kn ff sc ts mm st vl by_ tk ps pv pw : Int → Int} (hby : ∀ j, 0 ≤ j → j < 400 → 0 ≤ by_ j ∧ by_ j ≤ 255) (hpw : ∀ j, 0 ≤ j → j < 137 → pw j = ofL TB j) (z0_ : 0 ≤ pz) (z1_ : pz ≤ 400) {qz : TKS} (hok : ∀ (cs : List CXC) (t l sz_ nx_ tn_ pp_ pn_ : Int) (kn_ ff_ sc_ ts_ mm_ st_ vl_ tk_ ps_ pv_ : Int → Int), pRd (tkz by_ pz qz).2.1 (tkz by_ pz qz).2.2.1 (tkz by_ pz qz).1 0 9 16 = .inl (cs, t, l) → TxR 256 kn_ ff_ sc_ ts_ mm_ st_ vl_ 0 0 cs sz_ → sz_ ≤ 400 → cs.length ≤ 12 → Q (W_GR (-1) 0 nx_ tn_ pp_ 0 (cs.length : Int) sz_ 0 pn_ kn_ ff_ sc_ ts_ mm_ st_ vl_ by_ tk_ ps_ pv_ pw) (some (.int (ii 1)))) (her : ∀ (t : Int), pRd (tkz by_ pz qz).2.1 (tkz by_ pz qz).2.2.1 (tkz by_ pz qz).1 0 9 16 = .inr t → ∀ (nx_ tn_ pp_ ne_ tc_ sz_ pn_ : Int) (kn_ ff_ sc_ ts_ mm_ st_ vl_ tk_ ps_ pv_ : Int → Int), Q (W_GR ((tkz by_ pz qz).2.2.2 t) 0 nx_ tn_ pp_ ne_ tc_ sz_ 0 pn_ kn_ ff_ sc_ ts_ mm_ st_ vl_ by_ tk_ ps_ pv_ pw) (some (.int (ii 0)))) : CT g m_Gra_readsTape (d + 40) [.ref 0, .int (ii 0)] (W_GR fl oo nx tn_ pp ne tc sz pz pn kn ff sc ts mm st vl by_ tk ps pv pw) 0 0 Q := by
  refine CT.of (by decide) (Nat.le_of_ble_eq_true rfl) ?_
  show SJ _ _ _ _ [some (.ref 0), some (.int (ii 0)), none] [] _ _ _ _
  refine j_aload_n d_Gra_readsTape_0 rfl ?_
  refine j_iload_n d_Gra_readsTape_1 rfl ?_
  refine pf_GR_0_3 f_Gra_22 d_Gra_readsTape_2 (by first | exact Or.inl rfl | exact Or.inr rfl) ?_
  refine j_aload_n d_Gra_readsTape_5 rfl ?_
  refine z_iconst d_Gra_readsTape_6 ?_
  refine pf_GR_0_4 f_Gra_26 d_Gra_readsTape_7 ?_
  refine j_aload_n d_Gra_readsTape_10 rfl ?_
  refine z_iconst d_Gra_readsTape_11 ?_
  refine pf_GR_0_6 f_Gra_32 d_Gra_readsTape_12 ?_
  refine j_aload_n d_Gra_readsTape_15 rfl ?_
  refine z_iconst d_Gra_readsTape_16 ?_
  refine pf_GR_0_7 f_Gra_35 d_Gra_readsTape_17 ?_
  refine j_aload_n d_Gra_readsTape_20 rfl ?_
  refine z_iconst d_Gra_readsTape_21 ?_
  refine pf_GR_0_1 f_Gra_18 d_Gra_readsTape_22 ?_
  refine j_aload_n d_Gra_readsTape_25 rfl ?_
  refine gf_GR_0_0 f_Gra_12 d_Gra_readsTape_26 ?_
  refine v_call0 d_Gra_readsTape_29 c_Gra_42 rfl ⟨_, rfl, rfl⟩ (Nat.le_of_ble_eq_true rfl) (t_Tex_clear ?_)
  refine j_aload_n d_Gra_readsTape_32 rfl ?_
  refine gf_GR_0_2 f_Gra_38 d_Gra_readsTape_33 ?_
  refine v_call0 d_Gra_readsTape_36 c_Gra_45 rfl ⟨_, rfl, rfl⟩ (Nat.le_of_ble_eq_true rfl) (E_GR_TP (fun Q2 kz => t_Tap_split (q := qz) hby hpw z0_ z1_ (fun tk2 ps2 pv2 hTR he2 hp2 => kz _ _ _ _ _ _ _ _ rfl ?_)) rfl)
  have hH := TkH_of z0_ z1_ (fun j a b => hby j a (by omega)) hTR he2 hp2
  obtain ⟨hT, hps⟩ := hH
  have hN := hT.1
  have hz1 : (spT by_ pz 400 0 (0, qz.2)).1 = (tkz by_ pz qz).1 := rfl
  rw [hz1]
  refine j_aload_n d_Gra_readsTape_39 rfl ?_
  refine gf_GR_0_2 f_Gra_38 d_Gra_readsTape_40 ?_
  refine z_iconst d_Gra_readsTape_43 ?_
  refine pf_GR_9_1 f_Gra_50 d_Gra_readsTape_44 ?_
  refine j_aload_n d_Gra_readsTape_47 rfl ?_
  refine j_aload_n d_Gra_readsTape_48 rfl ?_
  refine gf_GR_0_2 f_Gra_38 d_Gra_readsTape_49 ?_
  refine gf_GR_9_2 f_Gra_53 d_Gra_readsTape_52 ?_
  refine z_iconst d_Gra_readsTape_55 ?_
  refine al_GR_11 d_Gra_readsTape_56 (by omega) (by omega) ?_
  rw [(hT.2.2.2 0 (by omega) (by omega)).1]
  refine pf_GR_0_5 f_Gra_29 d_Gra_readsTape_57 ?_
  refine z_iconst d_Gra_readsTape_60 ?_
  refine j_istore_n d_Gra_readsTape_61 (by decide) ?_
  show SJ _ _ _ _ [_, _, _] _ _ _ _ _
  refine SJ.mask [true, false, true] ?_
  show SJ _ _ _ _ [_, none, _] _ _ _ _ _
  refine lp_reads0 hT rfl (R_ := pRd (tkz by_ pz qz).2.1 (tkz by_ pz qz).2.2.1 (tkz by_ pz qz).1 0 9 16) (fun cs t l sz2 nx2 tn2 pp2 kn2 ff2 sc2 ts2 mm2 st2 vl2 e1 e2 e3 e4 => hok cs t l _ _ _ _ _ _ _ _ _ _ _ _ _ _ _ e1 e2 e3 e4) (fun t e1 e2 e3 nx2 tn2 pp2 ne2 tc2 sz2 kn2 ff2 sc2 ts2 mm2 st2 vl2 => ?_) _ 0 0 0 0 [] _ _ _ _ _ _ _ 13 rfl (by omega) (by omega) (by omega) (by omega) (by omega) (by omega) (by omega) (by omega) rfl (by omega) rfl ⟨fun _ => pRd_rdG.symm, fun q => absurd q (by decide)⟩
  rw [hps t e2 e3]
  exact her t e1 _ _ _ _ _ _ _ _ _ _ _ _ _ _ _ _ _
theorem lp_reads1 {g : Bool} {d : Nat} {Q : List xM → Option Value → Prop} {fl pz pn : Int} {by_ tk ps pv pw : Int → Int} {C V : Int → Int} {N : Int} (hT : TkH C V N tk pv) (hpn : pn = N + 1) {R_ : PR (List CXC)} (hok : ∀ (cs : List CXC) (t l sz_ nx_ tn_ pp_ : Int) (kn_ ff_ sc_ ts_ mm_ st_ vl_ : Int → Int), R_ = .inl (cs, t, l) → TxR 260 kn_ ff_ sc_ ts_ mm_ st_ vl_ 0 0 cs sz_ → sz_ ≤ 400 → cs.length ≤ 12 → Q (W_GR fl 1 nx_ tn_ pp_ 0 (cs.length : Int) sz_ pz pn kn_ ff_ sc_ ts_ mm_ st_ vl_ by_ tk ps pv pw) (some (.int (ii 1)))) (her : ∀ (t : Int), R_ = .inr t → 0 ≤ t → t ≤ N → ∀ (nx_ tn_ pp_ ne_ tc_ sz_ : Int) (kn_ ff_ sc_ ts_ mm_ st_ vl_ : Int → Int), Q (W_GR (ps t) 1 nx_ tn_ pp_ ne_ tc_ sz_ pz pn kn_ ff_ sc_ ts_ mm_ st_ vl_ by_ tk ps pv pw) (some (.int (ii 0)))) : ∀ (nn : Nat) (ti : Int) (lv : Int) (z : Int) (tc : Int) (cs : List CXC) (kn : Int → Int) (ff : Int → Int) (sc : Int → Int) (ts : Int → Int) (mm : Int → Int) (st : Int → Int) (vl : Int → Int) (k : Nat), (12 - tc).toNat = nn → 0 ≤ ti → ti ≤ N → 0 ≤ lv → lv ≤ 50 → 0 ≤ z → z ≤ ti → 0 ≤ tc → tc ≤ 12 → (cs.length : Int) = tc → (k : Int) + tc = 13 → TxR 260 kn ff sc ts mm st vl 0 0 cs z → Hd ((tc < 12 → rdG C V N 1 14 20 k (tc + 1) cs ti lv = R_) ∧ (tc = 12 → R_ = .inr ti)) → SJ g m_Gra_readsTape (d + 40) 62 [some (.ref 0), none, some (.int (ii tc))] [] (W_GR fl 1 ti (tkF C N ti) lv 0 tc z pz pn kn ff sc ts mm st vl by_ tk ps pv pw) 0 0 Q := by
  intro nn
  induction nn using Nat.strongRecOn with
  | ind nn ih =>
  intro ti lv z tc cs kn ff sc ts mm st vl k hn a1 a2 a3 a4 a5 a6 a7 a8 hcs hk hX hR
  have hN := hT.1
  refine j_iload_n d_Gra_readsTape_62 rfl ?_
  refine z_bipush d_Gra_readsTape_63 (by decide) ?_
  refine z_icmp_ge (t := 106) d_Gra_readsTape_65 (by decide) (by first | omega | exact hw _ | exact hx _ _ | assumption) (by first | omega | exact hw _ | exact hx _ _ | assumption) (fun h65 => ?_) (fun h65 => ?_)
  · have htc : tc = 12 := by omega
    refine j_aload_n d_Gra_readsTape_106 rfl ?_
    refine v_call0 d_Gra_readsTape_107 c_Gra_65 rfl ⟨_, rfl, rfl⟩ (Nat.le_of_ble_eq_true rfl) (t_Gra_fail hT hpn a1 a2 ?_)
    exact z_zreturn rfl (Or.inl rfl) d_Gra_readsTape_110 (her ti ((Hd.out hR).2 htc) a1 a2 _ _ _ _ _ _ _ _ _ _ _ _ _)
  · have hR1 := (Hd.out hR).1 (by omega)
    obtain ⟨k, rfl⟩ : ∃ j, k = j + 1 := ⟨k - 1, by omega⟩
    refine j_aload_n d_Gra_readsTape_68 rfl ?_
    refine v_call0 d_Gra_readsTape_69 c_Gra_57 rfl ⟨_, rfl, rfl⟩ (Nat.le_of_ble_eq_true rfl) (t_Gra_clause1 hT hpn a7 (by omega) a1 a2 a3 a4 a5 a6 (fun q t l kn2 ff2 sc2 ts2 mm2 st2 vl2 hq hCl hU hB hL => ?_) (fun t hq nx2 tn2 pp2 ne2 tc2 sz2 kn2 ff2 sc2 ts2 mm2 st2 vl2 => ?_))
    · refine z_if_ne (t := 77) d_Gra_readsTape_72 (by decide) (by first | omega | exact hw _ | exact hx _ _ | assumption) (fun _ => ?_) (fun h => absurd h (by decide))
      have hg := (pOne_R (C := C) (V := V) (io := 1) (fw := 14) (lw := 20) hT.2.1 (by decide) ti lv a1 a2 a3 a4).1 _ _ _ hq
      rw [rdG_go hq] at hR1
      have hRt := hT.R (show 0 ≤ t by omega)
      have hE := hT.end_ (show 0 ≤ t by omega) (show t ≤ N by omega)
      have hX2 : TxR 260 kn2 ff2 sc2 ts2 mm2 st2 vl2 0 0 (cs ++ [q]) (z + ((lyC z q).length : Int)) := hX.snoc cs 0 0 z (fun j hj => hU j (by omega)) hB (by rw [show (0 : Int) + (cs.length : Int) = tc by omega]; exact hCl)
      have hln : ((cs ++ [q]).length : Int) = tc + 1 := by rw [List.length_append]; show ((cs.length + 1 : Nat) : Int) = _; omega
      refine j_aload_n d_Gra_readsTape_77 rfl ?_
      refine gf_GR_0_5 f_Gra_29 d_Gra_readsTape_78 ?_
      refine z_sipush d_Gra_readsTape_81 (by decide) ?_
      refine z_icmp_ne (t := 89) d_Gra_readsTape_84 (by decide) (by first | omega | exact hw _ | exact hx _ _ | assumption) (by first | omega | exact hw _ | exact hx _ _ | assumption) (fun h84 => ?_) (fun h84 => ?_)
      · have hnend : t < N := by
          rcases Int.lt_or_eq_of_le hg.2.1 with q2 | q2
          · exact q2
          · exact absurd (hE.mpr q2) (by omega)
        refine j_aload_n d_Gra_readsTape_89 rfl ?_
        refine z_bipush d_Gra_readsTape_90 (by decide) ?_
        refine v_call1 d_Gra_readsTape_92 c_Gra_61 rfl ⟨_, rfl, rfl⟩ (Nat.le_of_ble_eq_true rfl) (t_Gra_take (w := 159) hT hpn (by omega) (by omega) (hT.b (by omega) (by omega) (by decide) (by decide)) (by decide) (by omega) (fun h92 h92l => ?_) (fun h92 => ?_))
        · refine z_if_ne (t := 100) d_Gra_readsTape_95 (by decide) (by first | omega | exact hw _ | exact hx _ _ | assumption) (fun _ => ?_) (fun h => absurd h (by decide))
          refine z_iinc d_Gra_readsTape_100 rfl (by decide) ?_
          show SJ _ _ _ _ [_, _, _] _ _ _ _ _
          refine j_goto (t := 62) d_Gra_readsTape_103 (by decide) ?_
          refine ih _ (by omega) (t + 1) l _ (tc + 1) (cs ++ [q]) _ _ _ _ _ _ _ k rfl (by omega) (by omega) (by omega) (by omega) (by omega) (by omega) (by omega) (by omega) hln (by omega) hX2 ⟨fun q1 => ?_, fun q1 => ?_⟩
          · rw [← hR1, rdE_go h92 (by omega)]
          · rw [← hR1, rdE_12 h92 (by omega)]
        · refine z_if_ne (t := 100) d_Gra_readsTape_95 (by decide) (by first | omega | exact hw _ | exact hx _ _ | assumption) (fun h => absurd h (by decide)) (fun _ => ?_)
          refine z_iconst d_Gra_readsTape_98 ?_
          exact z_zreturn rfl (Or.inl rfl) d_Gra_readsTape_99 (her t (by rw [← hR1, rdE_no h92 hnend]) (by omega) (by omega) _ _ _ _ _ _ _ _ _ _ _ _ _)
      · have hend : t = N := hE.mp (by omega)
        rw [rdE_end (by rw [hend, hT.2.1]; decide) (by omega)] at hR1
        rw [← hln]
        refine z_iconst d_Gra_readsTape_87 ?_
        exact z_zreturn rfl (Or.inr rfl) d_Gra_readsTape_88 (hok (cs ++ [q]) t l _ _ _ _ _ _ _ _ _ _ _ hR1.symm hX2 (by omega) (by omega))
    · refine z_if_ne (t := 77) d_Gra_readsTape_72 (by decide) (by first | omega | exact hw _ | exact hx _ _ | assumption) (fun h => absurd h (by decide)) (fun _ => ?_)
      refine z_iconst d_Gra_readsTape_75 ?_
      exact z_zreturn rfl (Or.inl rfl) d_Gra_readsTape_76 (her t (by rw [← hR1, rdG_er hq]) ((pOne_R (C := C) (V := V) (io := 1) (fw := 14) (lw := 20) hT.2.1 (by decide) ti lv a1 a2 a3 a4).2 _ hq).1 ((pOne_R (C := C) (V := V) (io := 1) (fw := 14) (lw := 20) hT.2.1 (by decide) ti lv a1 a2 a3 a4).2 _ hq).2 _ _ _ _ _ _ _ _ _ _ _ _ _)
theorem t_Gra_readsTape1 {g : Bool} {d : Nat} {Q : List xM → Option Value → Prop} {fl oo nx tn_ pp ne tc sz pz pn : Int} {kn ff sc ts mm st vl by_ tk ps pv pw : Int → Int} (hby : ∀ j, 0 ≤ j → j < 400 → 0 ≤ by_ j ∧ by_ j ≤ 255) (hpw : ∀ j, 0 ≤ j → j < 137 → pw j = ofL TB j) (z0_ : 0 ≤ pz) (z1_ : pz ≤ 400) {qz : TKS} (hok : ∀ (cs : List CXC) (t l sz_ nx_ tn_ pp_ pn_ : Int) (kn_ ff_ sc_ ts_ mm_ st_ vl_ tk_ ps_ pv_ : Int → Int), pRd (tkz by_ pz qz).2.1 (tkz by_ pz qz).2.2.1 (tkz by_ pz qz).1 1 14 20 = .inl (cs, t, l) → TxR 260 kn_ ff_ sc_ ts_ mm_ st_ vl_ 0 0 cs sz_ → sz_ ≤ 400 → cs.length ≤ 12 → Q (W_GR (-1) 1 nx_ tn_ pp_ 0 (cs.length : Int) sz_ 0 pn_ kn_ ff_ sc_ ts_ mm_ st_ vl_ by_ tk_ ps_ pv_ pw) (some (.int (ii 1)))) (her : ∀ (t : Int), pRd (tkz by_ pz qz).2.1 (tkz by_ pz qz).2.2.1 (tkz by_ pz qz).1 1 14 20 = .inr t → ∀ (nx_ tn_ pp_ ne_ tc_ sz_ pn_ : Int) (kn_ ff_ sc_ ts_ mm_ st_ vl_ tk_ ps_ pv_ : Int → Int), Q (W_GR ((tkz by_ pz qz).2.2.2 t) 1 nx_ tn_ pp_ ne_ tc_ sz_ 0 pn_ kn_ ff_ sc_ ts_ mm_ st_ vl_ by_ tk_ ps_ pv_ pw) (some (.int (ii 0)))) : CT g m_Gra_readsTape (d + 40) [.ref 0, .int (ii 1)] (W_GR fl oo nx tn_ pp ne tc sz pz pn kn ff sc ts mm st vl by_ tk ps pv pw) 0 0 Q := by
  refine CT.of (by decide) (Nat.le_of_ble_eq_true rfl) ?_
  show SJ _ _ _ _ [some (.ref 0), some (.int (ii 1)), none] [] _ _ _ _
  refine j_aload_n d_Gra_readsTape_0 rfl ?_
  refine j_iload_n d_Gra_readsTape_1 rfl ?_
  refine pf_GR_0_3 f_Gra_22 d_Gra_readsTape_2 (by first | exact Or.inl rfl | exact Or.inr rfl) ?_
  refine j_aload_n d_Gra_readsTape_5 rfl ?_
  refine z_iconst d_Gra_readsTape_6 ?_
  refine pf_GR_0_4 f_Gra_26 d_Gra_readsTape_7 ?_
  refine j_aload_n d_Gra_readsTape_10 rfl ?_
  refine z_iconst d_Gra_readsTape_11 ?_
  refine pf_GR_0_6 f_Gra_32 d_Gra_readsTape_12 ?_
  refine j_aload_n d_Gra_readsTape_15 rfl ?_
  refine z_iconst d_Gra_readsTape_16 ?_
  refine pf_GR_0_7 f_Gra_35 d_Gra_readsTape_17 ?_
  refine j_aload_n d_Gra_readsTape_20 rfl ?_
  refine z_iconst d_Gra_readsTape_21 ?_
  refine pf_GR_0_1 f_Gra_18 d_Gra_readsTape_22 ?_
  refine j_aload_n d_Gra_readsTape_25 rfl ?_
  refine gf_GR_0_0 f_Gra_12 d_Gra_readsTape_26 ?_
  refine v_call0 d_Gra_readsTape_29 c_Gra_42 rfl ⟨_, rfl, rfl⟩ (Nat.le_of_ble_eq_true rfl) (t_Tex_clear ?_)
  refine j_aload_n d_Gra_readsTape_32 rfl ?_
  refine gf_GR_0_2 f_Gra_38 d_Gra_readsTape_33 ?_
  refine v_call0 d_Gra_readsTape_36 c_Gra_45 rfl ⟨_, rfl, rfl⟩ (Nat.le_of_ble_eq_true rfl) (E_GR_TP (fun Q2 kz => t_Tap_split (q := qz) hby hpw z0_ z1_ (fun tk2 ps2 pv2 hTR he2 hp2 => kz _ _ _ _ _ _ _ _ rfl ?_)) rfl)
  have hH := TkH_of z0_ z1_ (fun j a b => hby j a (by omega)) hTR he2 hp2
  obtain ⟨hT, hps⟩ := hH
  have hN := hT.1
  have hz1 : (spT by_ pz 400 0 (0, qz.2)).1 = (tkz by_ pz qz).1 := rfl
  rw [hz1]
  refine j_aload_n d_Gra_readsTape_39 rfl ?_
  refine gf_GR_0_2 f_Gra_38 d_Gra_readsTape_40 ?_
  refine z_iconst d_Gra_readsTape_43 ?_
  refine pf_GR_9_1 f_Gra_50 d_Gra_readsTape_44 ?_
  refine j_aload_n d_Gra_readsTape_47 rfl ?_
  refine j_aload_n d_Gra_readsTape_48 rfl ?_
  refine gf_GR_0_2 f_Gra_38 d_Gra_readsTape_49 ?_
  refine gf_GR_9_2 f_Gra_53 d_Gra_readsTape_52 ?_
  refine z_iconst d_Gra_readsTape_55 ?_
  refine al_GR_11 d_Gra_readsTape_56 (by omega) (by omega) ?_
  rw [(hT.2.2.2 0 (by omega) (by omega)).1]
  refine pf_GR_0_5 f_Gra_29 d_Gra_readsTape_57 ?_
  refine z_iconst d_Gra_readsTape_60 ?_
  refine j_istore_n d_Gra_readsTape_61 (by decide) ?_
  show SJ _ _ _ _ [_, _, _] _ _ _ _ _
  refine SJ.mask [true, false, true] ?_
  show SJ _ _ _ _ [_, none, _] _ _ _ _ _
  refine lp_reads1 hT rfl (R_ := pRd (tkz by_ pz qz).2.1 (tkz by_ pz qz).2.2.1 (tkz by_ pz qz).1 1 14 20) (fun cs t l sz2 nx2 tn2 pp2 kn2 ff2 sc2 ts2 mm2 st2 vl2 e1 e2 e3 e4 => hok cs t l _ _ _ _ _ _ _ _ _ _ _ _ _ _ _ e1 e2 e3 e4) (fun t e1 e2 e3 nx2 tn2 pp2 ne2 tc2 sz2 kn2 ff2 sc2 ts2 mm2 st2 vl2 => ?_) _ 0 0 0 0 [] _ _ _ _ _ _ _ 13 rfl (by omega) (by omega) (by omega) (by omega) (by omega) (by omega) (by omega) (by omega) rfl (by omega) rfl ⟨fun _ => pRd_rdG.symm, fun q => absurd q (by decide)⟩
  rw [hps t e2 e3]
  exact her t e1 _ _ _ _ _ _ _ _ _ _ _ _ _ _ _ _ _
