/-! A LAW OF THE CLASS -/
theorem tex_td {b k : Nat} {u : TD} (hk : k + 8 = b) : (r_e (sgl (b :: [26, 27, 28, 29, 30, 31, 32, 33]) k) (.inr (10, [.ref 9, .ref 10, .ref 11, .ref 12, .ref 13, .ref 14, .ref 15, .int (ii u.1), .int (ii u.2.1)])) :: ([.inl (0, u.1.toNat, .inl (ia u.2.2.1)), .inl (0, u.1.toNat, .inl (ia u.2.2.2.1)), .inl (0, u.1.toNat, .inl (ia u.2.2.2.2.1)), .inl (0, u.1.toNat, .inl (ia u.2.2.2.2.2.1)), .inl (0, u.1.toNat, .inl (ia u.2.2.2.2.2.2.1)), .inl (0, u.2.1.toNat, .inl (ia u.2.2.2.2.2.2.2.1)), .inl (0, u.2.1.toNat, .inl (ia u.2.2.2.2.2.2.2.2))] : List xM).map (r_e (sgl (b :: [26, 27, 28, 29, 30, 31, 32, 33]) k))) = tdC b u := by
  subst hk
  rfl
theorem lx_up {lx : Nat → Option Nat} {n : Nat} {lc : Int} (hR : R32 lc) : va_up (lwR 148 lx) (ii lc).toNatClampNeg (some (148 + 8 * n)) = lwR 148 (va_up lx lc.toNat (some n)) := by
  rw [ii_nat hR]
  exact lwR_up (mx := fun _ => some n)
theorem SI.new {K : Int → Int} {lc fo rn rl rp : Int} {rs rm rd tm : Int → Int} (h : SI K lc fo rn rl rp rs rm rd tm) (hk6 : K 24 < 6) : SI (up K 24 (K 24 + 1)) (lc + 1) fo rn rl rp rs rm rd tm := by
  obtain ⟨hR, hk, t0, t1, t2, l1, l2⟩ := h
  have hn := hk.1
  have h24 := hk.2.2.2.2.2.1
  have h25 := hk.2.2.2.2.2.2
  have hre : RE K (up K 24 (K 24 + 1)) := ⟨up_ne (by omega), fun q q0 q1 => up_ne (by omega)⟩
  have e : ∀ j, j ≠ 24 → up K 24 (K 24 + 1) j = K j := fun j hj => up_ne hj
  refine ⟨hR.re hre, ⟨by rw [e 0 (by decide)]; exact hn, fun j j0 j1 => ?_, by rw [e 21 (by decide)]; exact hk.2.2.1, by rw [e 22 (by decide)]; exact hk.2.2.2.1, by rw [e 23 (by decide)]; exact hk.2.2.2.2.1, by rw [up_eq]; omega, by rw [up_eq, e 25 (by decide)]; omega⟩, by rw [e 21 (by decide)]; exact t0, by rw [e 22 (by decide)]; exact t1, by rw [e 23 (by decide)]; exact t2, by rw [up_eq, l1], by rw [e 25 (by decide)]; exact l2⟩
  rw [e 0 (by decide)] at j1
  rw [e (1 + j) (by omega)]
  exact hk.2.1 j j0 j1
theorem LXV.new {lx : Nat → Option Nat} {ts : List TD} {u : TD} {k : Nat} (h : LXV lx ts) : LXV (va_up lx k (some ts.length)) (ts ++ [u]) := by
  intro f j hf hj
  have hl : (ts ++ [u]).length = ts.length + 1 := by simp
  unfold va_up at hj
  split at hj
  · cases hj; omega
  · have := h f j hf hj; omega
theorem ts_grow {ts : List TD} {u : TD} (j : Nat) (t : TD) (h : ts[j]? = some t) : (ts ++ [u])[j]? = some t := by
  rw [List.getElem?_append_left (List.getElem?_eq_some_iff.mp h).1]; exact h
theorem LXV.more {mx : Nat → Option Nat} {ts : List TD} {u : TD} (h : LXV mx ts) : LXV mx (ts ++ [u]) := h.grow (by simp)
theorem DrR.more {hdn i51 ez : Int} {x50 : Int → Int} {qI : Nat → Int} {qF : Nat → Int → Int} {qx : Nat → Option Nat} {ts : List TD} {u : TD} (h : DrR hdn i51 ez x50 qI qF qx ts) : DrR hdn i51 ez x50 qI qF qx (ts ++ [u]) := ⟨h.1, h.2.1, h.2.2.1.more, h.2.2.2⟩
theorem ImR.more {k : Int} {kp x4 x3 : Int → Int} {I : Nat → Int} {F : Nat → Int → Int} {ax : Nat → Option Nat} {ts : List TD} {u : TD} (h : ImR k kp x4 x3 I F ax ts) : ImR k kp x4 x3 I F ax (ts ++ [u]) := ⟨h.1, h.2.1, fun q => ⟨(h.2.2.1 q).1, (h.2.2.1 q).2.texts (h.2.2.1 q).1.2.1.2.2.2.2.2.1.2 (fun _ _ => rfl) ts_grow⟩, h.2.2.2.more⟩
theorem wdR0 : wdR (fun _ => 0) (fun _ _ => 0) 0 9 16 := ⟨fun _ _ _ _ => rfl, fun h => absurd h (by decide), fun _ _ _ _ => ⟨show (-1000000000 : Int) ≤ 0 by decide, show (0 : Int) ≤ 1000000000 by decide⟩⟩
theorem t_Hou_law {d : Nat} {Q : List xM → Option Value → Prop} {hdn bl sp su lc fo rn rl rp pz pn fl td br dz ez rdn rlt rbr fz : Int} {rs rm rd ro tm kp by_ tk ps pv pw sk wd dk dl dg rsk wr rf : Int → Int} {qI aI bI cI gI pI yI : Nat → Int} {qF aF bF cF gF eF fF pF yF nF : Nat → Int → Int} {pr be wy : Int → Int → Int} {lx qx ax bx cx : Nat → Option Nat} {ts : List TD} (l0 : 0 ≤ lc) (l1 : lc ≤ 6) (hby : ∀ j, 0 ≤ j → j < 400 → 0 ≤ by_ j ∧ by_ j ≤ 255) (hpw : ∀ j, 0 ≤ j → j < 137 → pw j = ofL TB j) (z0_ : 0 ≤ pz) (z1_ : pz ≤ 400) {qz : TKS} (hfull : lc = 6 → Q (W_H hdn bl sp (-5) lc fo rn rl rp 0 pn fl td br dz ez rdn rlt rbr fz rs rm rd ro tm kp by_ tk ps pv pw sk wd dk dl dg rsk wr (up rf (rix (-5)) (rf (rix (-5)) + 1)) qI aI bI cI gI pI yI qF aF bF cF gF eF fF pF yF nF pr be wy lx qx ax bx cx ts) (some (.int (ii (-5))))) (her : lc < 6 → ∀ (t : Int), pRd (tkz by_ pz qz).2.1 (tkz by_ pz qz).2.2.1 (tkz by_ pz qz).1 0 9 16 = .inr t → ∀ (pn : Int) (tk ps pv : Int → Int) (gI : Nat → Int) (gF : Nat → Int → Int), Q (W_H hdn bl sp (-6) lc fo rn rl rp 0 pn ((tkz by_ pz qz).2.2.2 t) td br dz ez rdn rlt rbr fz rs rm rd ro tm kp by_ tk ps pv pw sk wd dk dl dg rsk wr (up rf (rix (-6)) (rf (rix (-6)) + 1)) qI aI bI cI gI pI yI qF aF bF cF gF eF fF pF yF nF pr be wy lx qx ax bx cx ts) (some (.int (ii (-6))))) (hok : lc < 6 → ∀ (cs : List CXC) (t l : Int) (u : TD), pRd (tkz by_ pz qz).2.1 (tkz by_ pz qz).2.2.1 (tkz by_ pz qz).1 0 9 16 = .inl (cs, t, l) → TxR 256 u.2.2.1 u.2.2.2.1 u.2.2.2.2.1 u.2.2.2.2.2.1 u.2.2.2.2.2.2.1 u.2.2.2.2.2.2.2.1 u.2.2.2.2.2.2.2.2 0 0 cs u.2.1 → u.2.1 ≤ 400 → cs.length ≤ 12 → u.1 = (cs.length : Int) → ∀ (pn : Int) (tk ps pv : Int → Int) (gI : Nat → Int) (gF : Nat → Int → Int), Q (W_H hdn bl sp 0 (lc + 1) fo rn rl rp 0 pn (-1) td br dz ez rdn rlt rbr fz rs rm rd ro tm kp by_ tk ps pv pw sk wd dk dl dg rsk wr rf qI aI bI cI gI pI yI qF aF bF cF gF eF fF pF yF nF pr be wy (va_up lx lc.toNat (some ts.length)) qx ax bx cx (ts ++ [u])) (some (.int (ii lc)))) : CT true m_Hou_law (d + 42) [.ref 0] (W_H hdn bl sp su lc fo rn rl rp pz pn fl td br dz ez rdn rlt rbr fz rs rm rd ro tm kp by_ tk ps pv pw sk wd dk dl dg rsk wr rf qI aI bI cI gI pI yI qF aF bF cF gF eF fF pF yF nF pr be wy lx qx ax bx cx ts) 8 941 Q := by
  have hR : R32 lc := ⟨by omega, by omega⟩
  refine CT.of (by decide) (Nat.le_of_ble_eq_true rfl) ?_
  show SJ _ _ _ _ [some (.ref 0)] [] _ _ _ _
  refine j_aload_n d_Hou_law_0 rfl ?_
  refine gf_H_0_0 f_Hou_12 d_Hou_law_1 ?_
  refine gf_H_1_3 f_Hou_147 d_Hou_law_4 ?_
  refine z_bipush d_Hou_law_7 (by decide) ?_
  refine z_icmp_lt (t := 27) d_Hou_law_9 (by decide) hR ⟨by decide, by decide⟩ (fun h6 => ?_) (fun h6 => ?_)
  · refine j_aload_n d_Hou_law_27 rfl ?_
    refine gf_H_0_5 f_Hou_39 d_Hou_law_28 ?_
    refine z_iconst d_Hou_law_31 ?_
    refine v_call1 d_Hou_law_32 c_Hou_150 rfl ⟨_, rfl, rfl⟩ (Nat.le_of_ble_eq_true rfl) (E_H_GR (fun Q2 kz => t_Gra_readsTape0 hby hpw z0_ z1_ (qz := qz) (fun cs t l sz_ nx_ tn_ pp_ pn_ kn_ ff_ sc_ ts_ mm_ st_ vl_ tk_ ps_ pv_ hpr hTx hs4 hc12 => kz _ _ _ _ _ _ _ _ _ _ _ _ _ _ _ _ _ _ _ _ _ _ _ rfl ?_) (fun t hpr nx_ tn_ pp_ ne_ tc_ sz_ pn_ kn_ ff_ sc_ ts_ mm_ st_ vl_ tk_ ps_ pv_ => kz _ _ _ _ _ _ _ _ _ _ _ _ _ _ _ _ _ _ _ _ _ _ _ rfl ?_)) rfl)
    · have hlen : (W_H hdn bl sp su lc fo rn rl rp 0 pn_ (-1) td br dz ez rdn rlt rbr fz rs rm rd ro tm kp by_ tk_ ps_ pv_ pw sk wd dk dl dg rsk wr rf qI aI bI cI (Lf [0, nx_, tn_, pp_, 0, (cs.length : Int), sz_]) pI yI qF aF bF cF (Lg [kn_, ff_, sc_, ts_, mm_, st_, vl_]) eF fF pF yF nF pr be wy lx qx ax bx cx ts).length = (148 + 8 * ts.length) := by rw [WH_eq, List.length_append, CH_len, TX_len]
      have hz0 := (TxR_at cs 0 0 _ hTx).1
      refine z_if_ne (t := 45) d_Hou_law_35 (by decide) ⟨by decide, by decide⟩ (fun _ => ?_) (fun h => absurd h (by decide))
      refine j_aload_n d_Hou_law_45 rfl ?_
      refine gf_H_0_0 f_Hou_12 d_Hou_law_46 ?_
      refine gf_H_1_2 f_Hou_154 d_Hou_law_49 ?_
      refine j_aload_n d_Hou_law_52 rfl ?_
      refine gf_H_0_0 f_Hou_12 d_Hou_law_53 ?_
      refine gf_H_1_3 f_Hou_147 d_Hou_law_56 ?_
      refine nw_Tex d_Hou_law_59 cl_Hou_158 (Nat.le_of_ble_eq_true rfl) (Nat.le_of_ble_eq_true rfl) ?_
      rw [hlen]
      refine j_dup d_Hou_law_62 rfl ?_
      refine j_aload_n d_Hou_law_63 rfl ?_
      refine j_getf d_Hou_law_64 f_Hou_39 rfl rfl ?_
      refine j_getf d_Hou_law_67 f_Hou_160 rfl rfl ?_
      refine j_callI (y2 := m_Tex_init2) (i := (148 + 8 * ts.length)) (as := [.ref 26]) (mc2 := 7) (ms2 := 932) d_Hou_law_70 c_Hou_164 rfl rfl (Nat.le_of_ble_eq_true rfl) (Nat.le_of_ble_eq_true rfl) (Nat.le_of_ble_eq_true rfl) ?_
      refine CT.appW (N := (148 + 8 * ts.length)) (K := (140 + 8 * ts.length)) (l := [26, 27, 28, 29, 30, 31, 32, 33]) (c0 := .inr (10, [.null, .null, .null, .null, .null, .null, .null, .int (ii 0), .int (ii 0)])) (cs := [.inr (10, [.ref 2, .ref 3, .ref 4, .ref 5, .ref 6, .ref 7, .ref 8, .int (ii (cs.length : Int)), .int (ii sz_)]), .inl (0, 12, .inl (ia kn_)), .inl (0, 12, .inl (ia ff_)), .inl (0, 12, .inl (ia sc_)), .inl (0, 12, .inl (ia ts_)), .inl (0, 12, .inl (ia mm_)), .inl (0, 436, .inl (ia st_)), .inl (0, 436, .inl (ia vl_))]) (args := [.ref 0, .ref 1]) hlen (by simp; omega) (by simp; omega) rfl (by show (140 + 8 * ts.length) + 8 = (148 + 8 * ts.length); omega) ⟨rfl, rfl, rfl, rfl, rfl, rfl, rfl, rfl, trivial⟩ rfl (n_Tex_init2 (by omega) (by omega) hz0 (by omega) ⟨_, [.inl (0, (cs.length : Int).toNat, .inl (ia kn_)), .inl (0, (cs.length : Int).toNat, .inl (ia ff_)), .inl (0, (cs.length : Int).toNat, .inl (ia sc_)), .inl (0, (cs.length : Int).toNat, .inl (ia ts_)), .inl (0, (cs.length : Int).toNat, .inl (ia mm_)), .inl (0, sz_.toNat, .inl (ia st_)), .inl (0, sz_.toNat, .inl (ia vl_))], rfl, rfl, ?_⟩)
      refine SJ.mem_eq (mem := (W_H hdn bl sp su lc fo rn rl rp 0 pn_ (-1) td br dz ez rdn rlt rbr fz rs rm rd ro tm kp by_ tk_ ps_ pv_ pw sk wd dk dl dg rsk wr rf qI aI bI cI (Lf [0, nx_, tn_, pp_, 0, (cs.length : Int), sz_]) pI yI qF aF bF cF (Lg [kn_, ff_, sc_, ts_, mm_, st_, vl_]) eF fF pF yF nF pr be wy lx qx ax bx cx (ts ++ [((cs.length : Int), sz_, kn_, ff_, sc_, ts_, mm_, st_, vl_)]))) ?_ ?_
      · rw [WH_eq, WH_eq, TX_app, List.append_assoc]
        congr 2
        exact (tex_td (u := ((cs.length : Int), sz_, kn_, ff_, sc_, ts_, mm_, st_, vl_)) (by omega)).trans (List.append_nil _).symm
      obtain ⟨fs, hfs⟩ := TX_law (cs := (C_H hdn bl sp su lc fo rn rl rp 0 pn_ (-1) td br dz ez rdn rlt rbr fz rs rm rd ro tm kp by_ tk_ ps_ pv_ pw sk wd dk dl dg rsk wr rf qI aI bI cI (Lf [0, nx_, tn_, pp_, 0, (cs.length : Int), sz_]) pI yI qF aF bF cF (Lg [kn_, ff_, sc_, ts_, mm_, st_, vl_]) eF fF pF yF nF pr be wy lx qx ax bx cx)) (b := 148) (j := ts.length) (ts := ts ++ [((cs.length : Int), sz_, kn_, ff_, sc_, ts_, mm_, st_, vl_)]) CH_len (by simp)
      rw [← WH_eq] at hfs
      refine j_aast (t := 5) (ci := 10) (n := 6) (f := lwR 148 lx) (Or.inl ⟨rfl, rfl⟩) d_Hou_law_73 rfl hfs (ii_in l0 (by omega) hR) ?_
      rw [lx_up hR]
      refine SJ.mem_eq (mem := (W_H hdn bl sp su lc fo rn rl rp 0 pn_ (-1) td br dz ez rdn rlt rbr fz rs rm rd ro tm kp by_ tk_ ps_ pv_ pw sk wd dk dl dg rsk wr rf qI aI bI cI (Lf [0, nx_, tn_, pp_, 0, (cs.length : Int), sz_]) pI yI qF aF bF cF (Lg [kn_, ff_, sc_, ts_, mm_, st_, vl_]) eF fF pF yF nF pr be wy (va_up lx lc.toNat (some ts.length)) qx ax bx cx (ts ++ [((cs.length : Int), sz_, kn_, ff_, sc_, ts_, mm_, st_, vl_)]))) rfl ?_
      refine j_aload_n d_Hou_law_74 rfl ?_
      refine gf_H_0_0 f_Hou_12 d_Hou_law_75 ?_
      refine j_dup d_Hou_law_78 rfl ?_
      refine gf_H_1_3 f_Hou_147 d_Hou_law_79 ?_
      refine z_iconst d_Hou_law_82 ?_
      refine z_iadd d_Hou_law_83 ?_
      refine pf_H_1_3 f_Hou_147 d_Hou_law_84 ?_
      refine j_aload_n d_Hou_law_87 rfl ?_
      refine j_aload_n d_Hou_law_88 rfl ?_
      refine gf_H_0_0 f_Hou_12 d_Hou_law_89 ?_
      refine gf_H_1_3 f_Hou_147 d_Hou_law_92 ?_
      refine z_iconst d_Hou_law_95 ?_
      refine z_isub d_Hou_law_96 ?_
      refine v_call1 d_Hou_law_97 c_Hou_121 rfl ⟨_, rfl, rfl⟩ (Nat.le_of_ble_eq_true rfl) (t_Hou_grant ?_)
      exact z_iret rfl d_Hou_law_100 (by omega) (hok h6 cs t l ((cs.length : Int), sz_, kn_, ff_, sc_, ts_, mm_, st_, vl_) hpr hTx hs4 hc12 rfl _ _ _ _ _ _)
    · refine z_if_ne (t := 45) d_Hou_law_35 (by decide) ⟨by decide, by decide⟩ (fun h => absurd rfl h) (fun _ => ?_)
      refine j_aload_n d_Hou_law_38 rfl ?_
      refine z_bipush d_Hou_law_39 (by decide) ?_
      refine v_call1 d_Hou_law_41 c_Hou_111 rfl ⟨_, rfl, rfl⟩ (Nat.le_of_ble_eq_true rfl) (t_Hou_refuse (by omega) (by omega) ?_)
      exact z_iret rfl d_Hou_law_44 (by first | rfl | omega) (her h6 t hpr _ _ _ _ _ _)
  · refine j_aload_n d_Hou_law_12 rfl ?_
    refine gf_H_0_4 f_Hou_30 d_Hou_law_13 ?_
    refine z_iconst d_Hou_law_16 ?_
    refine pf_H_19_1 f_Hou_124 d_Hou_law_17 ?_
    refine j_aload_n d_Hou_law_20 rfl ?_
    refine z_bipush d_Hou_law_21 (by decide) ?_
    refine v_call1 d_Hou_law_23 c_Hou_111 rfl ⟨_, rfl, rfl⟩ (Nat.le_of_ble_eq_true rfl) (t_Hou_refuse (by omega) (by omega) ?_)
    exact z_iret rfl d_Hou_law_26 (by first | rfl | omega) (hfull (by omega))
theorem st_law {d : Nat} {mem : List xM} (hI : INVm mem) {Q : List xM → Option Value → Prop} (kk : ∀ mem1 v, M148 mem1 → vI v → (∀ Q2 : List xM → Option Value → Prop, (∀ mem2, INVm mem2 → Q2 mem2 (some v)) → CT true m_Mod_law (d + 92) [.ref 148] mem1 0 0 Q2) → Q mem1 (some v)) : CT true m_Hou_law (d + 92) [.ref 0] mem 8 941 Q := by
  refine hI (fun mem => CT true m_Hou_law (d + 92) [.ref 0] mem 8 941 Q) ?_
  intro hdn bl sp su lc fo rn rl rp pz pn fl td br dz ez rdn rlt rbr fz rs rm rd ro tm kp by_ tk ps pv pw sk wd dk dl dg rsk wr rf qI aI bI cI gI pI yI qF aF bF cF gF eF fF pF yF nF pr be wy lx qx ax bx cx ts i0 i6 i8 i9 i10 i13 i14 i18 i19 i20 i21 i22 i23 i24 i25 i27 i28 i33 i42 i43 i44 i45 i46 i47 i48 i51 i52 x1 x2 x3 x4 x5 x7 x11 x12 x15 x16 x17 x26 x29 x30 x31 x32 x34 x35 x36 x37 x38 x39 x40 x41 x49 x50 h1 h2 h3 h4 h5 h6 h7 h8 h9 h10 h11 h12
  obtain ⟨hS, hL, hX⟩ := id h1
  obtain ⟨hU, hdz⟩ := h2
  subst hdz
  obtain ⟨rfl, ⟨z0_, z1_⟩, hby⟩ := id h3
  obtain ⟨rfl, rfl, rfl, rfl⟩ := h5
  have hKR := hS.2.1
  have hlc : lc = x2 24 := hS.2.2.2.2.2.1
  subst hlc
  have h24 := hKR.2.2.2.2.2.1
  have hbr : ∀ j, 0 ≤ j → j < 400 → -128 ≤ x11 j ∧ x11 j ≤ 127 := fun j j0 j1 => (hby j j0 j1).2
  have hb255 : ∀ j, 0 ≤ j → j < 400 → 0 ≤ by_ j ∧ by_ j ≤ 255 := fun j j0 j1 => by
    have h := hby j j0 j1
    rw [h.1]
    unfold ub
    split <;> omega
  have hTR := tkz_R (t := x11) (size := pz) (q := (i18, x15, x16, x17)) z0_ z1_ (fun j j0 j1 => by have := hbr j j0 (by omega); omega)
  have hub := tkz_ub (u := by_) hbr (fun j j0 j1 => (hby j j0 (by omega)).1) z1_ (i18, x15, x16, x17)
  obtain ⟨K_, hK⟩ : ∃ K_, tkz x11 pz (i18, x15, x16, x17) = K_ := ⟨_, rfl⟩
  rw [hK] at hTR hub
  have hN0 := hTR.1
  have hN1 := hTR.2.1
  have hTR2 := hTR.2.2.2
  refine E_XG (args := [.ref 0]) CH_len MM_len rfl ?_
  rw [← WH_eq]
  refine t_Hou_law (by omega) (by omega) hb255 h4.2 z0_ z1_ (qz := (i18, x15, x16, x17)) (fun hf => ?_) (fun hf t hpr pn tk ps pv gI gF => ?_) (fun hf cs t l u hpr hTx hs4 hc12 hu1 pn tk ps pv gI gF => ?_)
  · refine ⟨(C_H hdn bl sp (-5) (x2 24) fo rn rl rp 0 pn fl td br dz ez rdn rlt rbr fz rs rm rd ro tm kp by_ tk ps pv pw sk wd dk dl dg rsk wr (up rf (rix (-5)) (rf (rix (-5)) + 1)) qI aI bI cI gI pI yI qF aF bF cF gF eF fF pF yF nF pr be wy lx qx ax bx cx), [], by rw [List.append_nil]; exact WH_eq, CH_len, rfl, ?_⟩
    rw [List.append_nil]
    exact kk _ _ (M148_of CH_len MM_len ⟨_, rfl⟩) ⟨_, rfl⟩ (fun Q2 hq => E_M (args := [.ref 0]) CH_len MM_len rfl (t_Mod_law hbr h4.1 z0_ z1_ hK h24.1 h24.2 (fun _ => ⟨MM_len, rfl, hq _ (INVmk h1 ⟨hU, rfl⟩ ⟨rfl, ⟨by omega, by omega⟩, hby⟩ h4 ⟨rfl, rfl, rfl, rfl⟩ (h6.upR (by decide)) h7 h8 h9 h10 h11 h12)⟩) (fun hlt => absurd hlt (by omega)) (fun hlt => absurd hlt (by omega))))
  · rw [hub] at hpr ⊢
    refine ⟨(C_H hdn bl sp (-6) (x2 24) fo rn rl rp 0 pn (K_.2.2.2 t) td br dz ez rdn rlt rbr fz rs rm rd ro tm kp by_ tk ps pv pw sk wd dk dl dg rsk wr (up rf (rix (-6)) (rf (rix (-6)) + 1)) qI aI bI cI gI pI yI qF aF bF cF gF eF fF pF yF nF pr be wy lx qx ax bx cx), [], by rw [List.append_nil]; exact WH_eq, CH_len, rfl, ?_⟩
    rw [List.append_nil]
    exact kk _ _ (M148_of CH_len MM_len ⟨_, rfl⟩) ⟨_, rfl⟩ (fun Q2 hq => E_M (args := [.ref 0]) CH_len MM_len rfl (t_Mod_law hbr h4.1 z0_ z1_ hK h24.1 h24.2 (fun hlt => absurd hlt (by omega)) (fun _ t2 hp2 j19 j20 j21 => by cases hpr.symm.trans hp2; exact ⟨MM_len, rfl, hq _ (INVmk h1 ⟨hU, rfl⟩ ⟨rfl, ⟨by omega, by omega⟩, hby⟩ h4 ⟨rfl, rfl, rfl, rfl⟩ (h6.upR (by decide)) h7 h8 h9 h10 h11 h12)⟩) (fun _ cs2 t2 l2 hp2 => absurd (hpr.symm.trans hp2) (by intro z; cases z))))
  · rw [hub] at hpr
    have hx6 : x2 24 < 6 := by omega
    have hh : ∀ q ∈ cs, CXh 0 q := fun q hq => (co_rd (st := fun _ => 0) (vl := fun _ => 0) (sz := 0) (by decide) hN0 hTR.2.2.1 (fun k k0 k1 => (hTR2 k k0 (by omega)).2.1.1) (Or.inl ⟨rfl, rfl, rfl⟩) wdR0 hpr q hq).2
    have hB : TdB u := TdB_of hpr hh hTx hu1 hc12 hs4
    have hW : LWok (lyK x2 K_.2.1 K_.2.2.1 K_.1 (x2 24)) (x2 24) u := LWok.new h24.1 (by omega) hN0 hN1 hTR.2.2.1 (fun k k0 k1 => (hTR2 k k0 (by omega)).2.1) hpr hTx hu1 hB
    have hLl := hL.law hX h24.1 hx6 hN0 hN1 (fun k k0 k1 => (hTR2 k k0 (by omega)).1) hW
    have hly := lyK_at (K := x2) (C := K_.2.1) (V := K_.2.2.1) (N := K_.1) (f := x2 24) (by omega) (by omega) hN0 hN1
    have e24 : lyK x2 K_.2.1 K_.2.2.1 K_.1 (x2 24) 24 = x2 24 := hly.2.2 24 (by omega) (by omega) (by omega)
    have hSl : SI (up (lyK x2 K_.2.1 K_.2.2.1 K_.1 (x2 24)) 24 (x2 24 + 1)) (x2 24 + 1) fo rn rl rp rs rm rd tm := by
      have := (hS.lay (C := K_.2.1) (V := K_.2.2.1) (f := x2 24) (by omega) (by omega) hN0 hN1).new (by rw [e24]; exact hx6)
      rw [e24] at this
      exact this
    have hUl : UR (up (lyK x2 K_.2.1 K_.2.2.1 K_.1 (x2 24)) 24 (x2 24 + 1)) x31 dz dk dl dg := hU.same (fun j j0 j1 => by rw [up_ne (by omega)]; exact hly.2.2 j (by omega) (by omega) (by omega))
    refine ⟨(C_H hdn bl sp 0 (x2 24 + 1) fo rn rl rp 0 pn (-1) td br dz ez rdn rlt rbr fz rs rm rd ro tm kp by_ tk ps pv pw sk wd dk dl dg rsk wr rf qI aI bI cI gI pI yI qF aF bF cF gF eF fF pF yF nF pr be wy (va_up lx (x2 24).toNat (some ts.length)) qx ax bx cx), [u], WH_eq, CH_len, rfl, ?_⟩
    exact kk _ _ (M148_of CH_len MM_len ⟨_, rfl⟩) ⟨_, rfl⟩ (fun Q2 hq => E_M (args := [.ref 0]) CH_len MM_len rfl (t_Mod_law hbr h4.1 z0_ z1_ hK h24.1 h24.2 (fun hlt => absurd hlt (by omega)) (fun _ t2 hp2 => absurd (hpr.symm.trans hp2) (by intro z; cases z)) (fun _ cs2 t2 l2 hp2 j19 j20 j21 => by exact ⟨MM_len, rfl, hq _ (INVmk ⟨hSl, hLl, hX.new⟩ ⟨hUl, rfl⟩ ⟨rfl, ⟨by omega, by omega⟩, hby⟩ h4 ⟨rfl, rfl, rfl, rfl⟩ h6 h7 h8.more h9.more h10.more ⟨h11.1.more, h11.2⟩ h12)⟩)))
