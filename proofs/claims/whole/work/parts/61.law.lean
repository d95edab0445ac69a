theorem t_Mod_reads {g : Bool} {d : Nat} {Q : List xM → Option Value → Prop} {i0 i6 i8 i9 i10 i13 i14 i18 i19 i20 i21 i22 i23 i24 i25 i27 i28 i33 i42 i43 i44 i45 i46 i47 i48 i51 i52 : Int} {x1 x2 x3 x4 x5 x7 x11 x12 x15 x16 x17 x26 x29 x30 x31 x32 x34 x35 x36 x37 x38 x39 x40 x41 x49 x50 : Int → Int} (ht : ∀ j, 0 ≤ j → j < 400 → -128 ≤ x11 j ∧ x11 j ≤ 127) (hw7 : ∀ j, 0 ≤ j → j < 137 → x7 j = ofL TA j) (t0_ : 0 ≤ i13) (t1_ : i13 ≤ 400) {K_ : TKS} (hK : tkz x11 i13 (i18, x15, x16, x17) = K_) (hio : i8 = 9 ∧ i9 = 16 ∧ i10 = 0 ∨ i8 = 14 ∧ i9 = 20 ∧ i10 = 1) (hok : ∀ (cs : List CXC) (t l : Int), pRd K_.2.1 K_.2.2.1 K_.1 i10 i8 i9 = .inl (cs, t, l) → ∀ j19 j20 j21, Q (MM i0 i6 i8 i9 i10 0 (-1) K_.1 j19 j20 j21 i22 i23 i24 i25 i27 i28 i33 i42 i43 i44 i45 i46 i47 i48 i51 i52 x1 x2 x3 x4 x5 x7 x11 x12 K_.2.1 K_.2.2.1 K_.2.2.2 x26 x29 x30 x31 x32 x34 x35 x36 x37 x38 x39 x40 x41 x49 x50) (some (.int (ii 1)))) (her : ∀ (t : Int), pRd K_.2.1 K_.2.2.1 K_.1 i10 i8 i9 = .inr t → ∀ j19 j20 j21, Q (MM i0 i6 i8 i9 i10 0 (K_.2.2.2 t) K_.1 j19 j20 j21 i22 i23 i24 i25 i27 i28 i33 i42 i43 i44 i45 i46 i47 i48 i51 i52 x1 x2 x3 x4 x5 x7 x11 x12 K_.2.1 K_.2.2.1 K_.2.2.2 x26 x29 x30 x31 x32 x34 x35 x36 x37 x38 x39 x40 x41 x49 x50) (some (.int (ii 0))))  : CT g m_Mod_reads (d + 36) [.ref 0] (MM i0 i6 i8 i9 i10 i13 i14 i18 i19 i20 i21 i22 i23 i24 i25 i27 i28 i33 i42 i43 i44 i45 i46 i47 i48 i51 i52 x1 x2 x3 x4 x5 x7 x11 x12 x15 x16 x17 x26 x29 x30 x31 x32 x34 x35 x36 x37 x38 x39 x40 x41 x49 x50) 0 0 Q := by
  refine CT.of (by decide) (Nat.le_of_ble_eq_true rfl) ?_
  show SJ _ _ _ _ [some (.ref 0), none] [] _ _ _ _
  have hz := tkz_R (t := x11) (size := i13) (q := (i18, x15, x16, x17)) t0_ t1_ (fun j a b => by have := ht j a (by omega); omega)
  rw [hK] at hz
  obtain ⟨hN0, hN1, hNe, hcd⟩ := hz
  refine j_aload_n d_Mod_reads_0 rfl ?_
  refine j_aload_n d_Mod_reads_1 rfl ?_
  refine mg_taped f_Mod_136 d_Mod_reads_2 ?_
  refine v_call1 d_Mod_reads_5 c_Mod_227 rfl ⟨_, rfl, rfl⟩ (Nat.le_of_ble_eq_true rfl) (t_Mod_splits ht hw7 t0_ t1_ hK ?_)
  refine j_aload_n d_Mod_reads_8 rfl ?_
  refine z_iconst d_Mod_reads_9 ?_
  refine mp_taped f_Mod_136 d_Mod_reads_10 ?_
  refine j_aload_n d_Mod_reads_13 rfl ?_
  refine z_iconst d_Mod_reads_14 ?_
  refine mp_token f_Mod_166 d_Mod_reads_15 ?_
  refine j_aload_n d_Mod_reads_18 rfl ?_
  refine z_iconst d_Mod_reads_19 ?_
  refine mp_leaves f_Mod_175 d_Mod_reads_20 ?_
  refine j_aload_n d_Mod_reads_23 rfl ?_
  refine z_iconst d_Mod_reads_24 ?_
  refine mp_bad f_Mod_159 d_Mod_reads_25 ?_
  refine j_aload_n d_Mod_reads_28 rfl ?_
  refine v_call0 d_Mod_reads_29 c_Mod_230 rfl ⟨_, rfl, rfl⟩ (Nat.le_of_ble_eq_true rfl) (oneReads hN0 hN1 hNe hcd hio 0 0 _ (by omega) (by omega) (by omega) (by omega) (fun a t l hF => ?_) (fun t hF l => ?_))
  · refine z_iconst d_Mod_reads_32 ?_
    refine j_istore_n d_Mod_reads_33 (by decide) ?_
    show SJ _ _ _ _ [_, _] _ _ _ _ _
    have hg := (pOne_R (C := K_.2.1) (V := K_.2.2.1) (io := i10) (fw := i8) (lw := i9) hNe (by omega) 0 0 (by omega) (by omega) (by omega) (by omega)).1 _ _ _ hF
    exact lp_readsM hN0 hN1 hNe hcd hio (fun cs t l e j19 j20 => hok cs t l e _ _ _) (fun t e j19 j20 => her t e _ _ _) _ t l 1 [a] 12 rfl (by omega) (by omega) (by omega) (by omega) (by omega) (by omega) (by omega) (by rw [pRd_rdG, rdG_go hF]; rfl)
  · refine z_iconst d_Mod_reads_32 ?_
    refine j_istore_n d_Mod_reads_33 (by decide) ?_
    show SJ _ _ _ _ [_, _] _ _ _ _ _
    have hgb := (pOne_R (C := K_.2.1) (V := K_.2.2.1) (io := i10) (fw := i8) (lw := i9) hNe (by omega) 0 0 (by omega) (by omega) (by omega) (by omega)).2 _ hF
    have hck_ := hcd t (by omega) (by omega)
    obtain ⟨hbz, hbz2⟩ := hck_.2.2
    refine SJ.mask [true, false] ?_
    show SJ _ _ _ _ [_, none] _ _ _ _ _
    exact sj_readsB hbz hbz2 (her t (by rw [pRd_rdG, rdG_er hF]) _ _ _)
theorem t_Mod_readsAs0 {g : Bool} {d : Nat} {Q : List xM → Option Value → Prop} {i0 i6 i8 i9 i10 i13 i14 i18 i19 i20 i21 i22 i23 i24 i25 i27 i28 i33 i42 i43 i44 i45 i46 i47 i48 i51 i52 : Int} {x1 x2 x3 x4 x5 x7 x11 x12 x15 x16 x17 x26 x29 x30 x31 x32 x34 x35 x36 x37 x38 x39 x40 x41 x49 x50 : Int → Int} (ht : ∀ j, 0 ≤ j → j < 400 → -128 ≤ x11 j ∧ x11 j ≤ 127) (hw7 : ∀ j, 0 ≤ j → j < 137 → x7 j = ofL TA j) (t0_ : 0 ≤ i13) (t1_ : i13 ≤ 400) {K_ : TKS} (hK : tkz x11 i13 (i18, x15, x16, x17) = K_) (hok : ∀ (cs : List CXC) (t l : Int), pRd K_.2.1 K_.2.2.1 K_.1 0 9 16 = .inl (cs, t, l) → ∀ j19 j20 j21, Q (MM i0 i6 9 16 0 0 (-1) K_.1 j19 j20 j21 i22 i23 i24 i25 i27 i28 i33 i42 i43 i44 i45 i46 i47 i48 i51 i52 x1 x2 x3 x4 x5 x7 x11 x12 K_.2.1 K_.2.2.1 K_.2.2.2 x26 x29 x30 x31 x32 x34 x35 x36 x37 x38 x39 x40 x41 x49 x50) (some (.int (ii 1)))) (her : ∀ (t : Int), pRd K_.2.1 K_.2.2.1 K_.1 0 9 16 = .inr t → ∀ j19 j20 j21, Q (MM i0 i6 9 16 0 0 (K_.2.2.2 t) K_.1 j19 j20 j21 i22 i23 i24 i25 i27 i28 i33 i42 i43 i44 i45 i46 i47 i48 i51 i52 x1 x2 x3 x4 x5 x7 x11 x12 K_.2.1 K_.2.2.1 K_.2.2.2 x26 x29 x30 x31 x32 x34 x35 x36 x37 x38 x39 x40 x41 x49 x50) (some (.int (ii 0))))  : CT g m_Mod_readsAs (d + 37) [.ref 0, .int (ii 0)] (MM i0 i6 i8 i9 i10 i13 i14 i18 i19 i20 i21 i22 i23 i24 i25 i27 i28 i33 i42 i43 i44 i45 i46 i47 i48 i51 i52 x1 x2 x3 x4 x5 x7 x11 x12 x15 x16 x17 x26 x29 x30 x31 x32 x34 x35 x36 x37 x38 x39 x40 x41 x49 x50) 0 0 Q := by
  refine CT.of (by decide) (Nat.le_of_ble_eq_true rfl) ?_
  show SJ _ _ _ _ [some (.ref 0), some (.int (ii 0))] [] _ _ _ _
  refine j_aload_n d_Mod_readsAs_0 rfl ?_
  refine j_iload_n d_Mod_readsAs_1 rfl ?_
  refine mp_isOrders f_Mod_192 d_Mod_readsAs_2 (by first | exact Or.inl rfl | exact Or.inr rfl) ?_
  refine j_aload_n d_Mod_readsAs_5 rfl ?_
  refine j_iload_n d_Mod_readsAs_6 rfl ?_
  refine z_if_eq (t := 15) d_Mod_readsAs_7 (by decide) (by first | omega | exact hw _ | exact hx _ _ | assumption) (fun _ => ?_) (fun h => absurd h (by decide))
  refine z_bipush d_Mod_readsAs_15 (by decide) ?_
  refine mp_firstWord f_Mod_218 d_Mod_readsAs_17 ?_
  refine j_aload_n d_Mod_readsAs_20 rfl ?_
  refine j_iload_n d_Mod_readsAs_21 rfl ?_
  refine z_if_eq (t := 30) d_Mod_readsAs_22 (by decide) (by first | omega | exact hw _ | exact hx _ _ | assumption) (fun _ => ?_) (fun h => absurd h (by decide))
  refine z_bipush d_Mod_readsAs_30 (by decide) ?_
  refine mp_lastWord f_Mod_221 d_Mod_readsAs_32 ?_
  refine j_aload_n d_Mod_readsAs_35 rfl ?_
  refine v_call0 d_Mod_readsAs_36 c_Mod_233 rfl ⟨_, rfl, rfl⟩ (Nat.le_of_ble_eq_true rfl) (t_Mod_reads ht hw7 t0_ t1_ hK (by decide) (fun cs t l e j19 j20 j21 => ?_) (fun t e j19 j20 j21 => ?_))
  · exact z_zreturn rfl (Or.inr rfl) d_Mod_readsAs_39 (hok cs t l e _ _ _)
  · exact z_zreturn rfl (Or.inl rfl) d_Mod_readsAs_39 (her t e _ _ _)
theorem t_Mod_readsAs1 {g : Bool} {d : Nat} {Q : List xM → Option Value → Prop} {i0 i6 i8 i9 i10 i13 i14 i18 i19 i20 i21 i22 i23 i24 i25 i27 i28 i33 i42 i43 i44 i45 i46 i47 i48 i51 i52 : Int} {x1 x2 x3 x4 x5 x7 x11 x12 x15 x16 x17 x26 x29 x30 x31 x32 x34 x35 x36 x37 x38 x39 x40 x41 x49 x50 : Int → Int} (ht : ∀ j, 0 ≤ j → j < 400 → -128 ≤ x11 j ∧ x11 j ≤ 127) (hw7 : ∀ j, 0 ≤ j → j < 137 → x7 j = ofL TA j) (t0_ : 0 ≤ i13) (t1_ : i13 ≤ 400) {K_ : TKS} (hK : tkz x11 i13 (i18, x15, x16, x17) = K_) (hok : ∀ (cs : List CXC) (t l : Int), pRd K_.2.1 K_.2.2.1 K_.1 1 14 20 = .inl (cs, t, l) → ∀ j19 j20 j21, Q (MM i0 i6 14 20 1 0 (-1) K_.1 j19 j20 j21 i22 i23 i24 i25 i27 i28 i33 i42 i43 i44 i45 i46 i47 i48 i51 i52 x1 x2 x3 x4 x5 x7 x11 x12 K_.2.1 K_.2.2.1 K_.2.2.2 x26 x29 x30 x31 x32 x34 x35 x36 x37 x38 x39 x40 x41 x49 x50) (some (.int (ii 1)))) (her : ∀ (t : Int), pRd K_.2.1 K_.2.2.1 K_.1 1 14 20 = .inr t → ∀ j19 j20 j21, Q (MM i0 i6 14 20 1 0 (K_.2.2.2 t) K_.1 j19 j20 j21 i22 i23 i24 i25 i27 i28 i33 i42 i43 i44 i45 i46 i47 i48 i51 i52 x1 x2 x3 x4 x5 x7 x11 x12 K_.2.1 K_.2.2.1 K_.2.2.2 x26 x29 x30 x31 x32 x34 x35 x36 x37 x38 x39 x40 x41 x49 x50) (some (.int (ii 0))))  : CT g m_Mod_readsAs (d + 37) [.ref 0, .int (ii 1)] (MM i0 i6 i8 i9 i10 i13 i14 i18 i19 i20 i21 i22 i23 i24 i25 i27 i28 i33 i42 i43 i44 i45 i46 i47 i48 i51 i52 x1 x2 x3 x4 x5 x7 x11 x12 x15 x16 x17 x26 x29 x30 x31 x32 x34 x35 x36 x37 x38 x39 x40 x41 x49 x50) 0 0 Q := by
  refine CT.of (by decide) (Nat.le_of_ble_eq_true rfl) ?_
  show SJ _ _ _ _ [some (.ref 0), some (.int (ii 1))] [] _ _ _ _
  refine j_aload_n d_Mod_readsAs_0 rfl ?_
  refine j_iload_n d_Mod_readsAs_1 rfl ?_
  refine mp_isOrders f_Mod_192 d_Mod_readsAs_2 (by first | exact Or.inl rfl | exact Or.inr rfl) ?_
  refine j_aload_n d_Mod_readsAs_5 rfl ?_
  refine j_iload_n d_Mod_readsAs_6 rfl ?_
  refine z_if_eq (t := 15) d_Mod_readsAs_7 (by decide) (by first | omega | exact hw _ | exact hx _ _ | assumption) (fun h => absurd h (by decide)) (fun _ => ?_)
  refine z_bipush d_Mod_readsAs_10 (by decide) ?_
  refine j_goto (t := 17) d_Mod_readsAs_12 (by decide) ?_
  refine mp_firstWord f_Mod_218 d_Mod_readsAs_17 ?_
  refine j_aload_n d_Mod_readsAs_20 rfl ?_
  refine j_iload_n d_Mod_readsAs_21 rfl ?_
  refine z_if_eq (t := 30) d_Mod_readsAs_22 (by decide) (by first | omega | exact hw _ | exact hx _ _ | assumption) (fun h => absurd h (by decide)) (fun _ => ?_)
  refine z_bipush d_Mod_readsAs_25 (by decide) ?_
  refine j_goto (t := 32) d_Mod_readsAs_27 (by decide) ?_
  refine mp_lastWord f_Mod_221 d_Mod_readsAs_32 ?_
  refine j_aload_n d_Mod_readsAs_35 rfl ?_
  refine v_call0 d_Mod_readsAs_36 c_Mod_233 rfl ⟨_, rfl, rfl⟩ (Nat.le_of_ble_eq_true rfl) (t_Mod_reads ht hw7 t0_ t1_ hK (by decide) (fun cs t l e j19 j20 j21 => ?_) (fun t e j19 j20 j21 => ?_))
  · exact z_zreturn rfl (Or.inr rfl) d_Mod_readsAs_39 (hok cs t l e _ _ _)
  · exact z_zreturn rfl (Or.inl rfl) d_Mod_readsAs_39 (her t e _ _ _)
def lyK (K C V : Int → Int) (N f : Int) : Int → Int := cpy V (cpy C (up K (26 + f) N) 0 (33 + 400 * f) N) 0 (2833 + 400 * f) N
theorem lay_st {K C V : Int → Int} {N f q : Int} (f0 : 0 ≤ f) (f1 : f ≤ 6) (q0 : 0 ≤ q) (q1 : q < 400) : up (up (cpy V (cpy C (up K (26 + f) N) 0 (33 + 400 * f) q) 0 (2833 + 400 * f) q) (33 + 400 * f + q) (C q)) (2833 + 400 * f + q) (V q) = cpy V (cpy C (up K (26 + f) N) 0 (33 + 400 * f) (q + 1)) 0 (2833 + 400 * f) (q + 1) := by
  funext j
  by_cases e1 : j = 2833 + 400 * f + q
  · subst e1
    rw [up_eq]
    unfold cpy
    rw [if_pos (by omega)]
    congr 1
    omega
  · rw [up_ne e1]
    by_cases e2 : j = 33 + 400 * f + q
    · subst e2
      rw [up_eq]
      unfold cpy
      rw [if_neg (by omega), if_pos (by omega)]
      congr 1
      omega
    · rw [up_ne e2]
      unfold cpy
      by_cases c1 : 2833 + 400 * f ≤ j ∧ j < 2833 + 400 * f + q
      · rw [if_pos c1, if_pos (by omega)]
      · have c1' : ¬ (2833 + 400 * f ≤ j ∧ j < 2833 + 400 * f + (q + 1)) := by omega
        rw [if_neg c1, if_neg c1']
        by_cases c2 : 33 + 400 * f ≤ j ∧ j < 33 + 400 * f + q
        · have c2' : 33 + 400 * f ≤ j ∧ j < 33 + 400 * f + (q + 1) := by omega
          rw [if_pos c2, if_pos c2']
        · have c2' : ¬ (33 + 400 * f ≤ j ∧ j < 33 + 400 * f + (q + 1)) := by omega
          rw [if_neg c2, if_neg c2']
theorem lp_lays {g : Bool} {d : Nat} {Q : List xM → Option Value → Prop} {i0 i6 i8 i9 i10 i13 i14 i18 i19 i20 i21 i22 i23 i24 i25 i27 i28 i33 i42 i43 i44 i45 i46 i47 i48 i51 i52 : Int} {x1 x2 x3 x4 x5 x7 x11 x12 x15 x16 x17 x26 x29 x30 x31 x32 x34 x35 x36 x37 x38 x39 x40 x41 x49 x50 : Int → Int} {f : Int} (f0 : 0 ≤ f) (f1 : f ≤ 6) (n0 : 0 ≤ i18) (n1 : i18 ≤ 400) (hQ : Q (MM i0 i6 i8 i9 i10 i13 i14 i18 i19 i20 i21 i22 i23 i24 i25 i27 i28 i33 i42 i43 i44 i45 i46 i47 i48 i51 i52 x1 (lyK x2 x15 x16 i18 f) x3 x4 x5 x7 x11 x12 x15 x16 x17 x26 x29 x30 x31 x32 x34 x35 x36 x37 x38 x39 x40 x41 x49 x50) none) : ∀ (nn : Nat) (q : Int), (i18 - q).toNat = nn → 0 ≤ q → q ≤ i18 → SJ g m_Mod_lays d 15 [some (.ref 0), some (.int (ii f)), some (.int (ii q))] [] (MM i0 i6 i8 i9 i10 i13 i14 i18 i19 i20 i21 i22 i23 i24 i25 i27 i28 i33 i42 i43 i44 i45 i46 i47 i48 i51 i52 x1 (cpy x16 (cpy x15 (up x2 (26 + f) i18) 0 (33 + 400 * f) q) 0 (2833 + 400 * f) q) x3 x4 x5 x7 x11 x12 x15 x16 x17 x26 x29 x30 x31 x32 x34 x35 x36 x37 x38 x39 x40 x41 x49 x50) 0 0 Q := by
  intro nn
  induction nn using Nat.strongRecOn with
  | ind nn ih =>
  intro q hn q0 q1
  refine j_iload_n d_Mod_lays_15 rfl ?_
  refine j_aload_n d_Mod_lays_16 rfl ?_
  refine mg_tokens f_Mod_145 d_Mod_lays_17 ?_
  refine z_icmp_ge (t := 72) d_Mod_lays_20 (by decide) (by first | omega | exact hw _ | exact hx _ _ | assumption) (by first | omega | exact hw _ | exact hx _ _ | assumption) (fun h20 => ?_) (fun h20 => ?_)
  · rw [show q = i18 by omega]
    exact j_return rfl d_Mod_lays_72 hQ
  · refine j_aload_n d_Mod_lays_23 rfl ?_
    refine mg_kept f_Mod_32 d_Mod_lays_24 ?_
    refine z_bipush d_Mod_lays_27 (by decide) ?_
    refine z_sipush d_Mod_lays_29 (by decide) ?_
    refine j_iload_n d_Mod_lays_32 rfl ?_
    refine z_imul d_Mod_lays_33 ?_
    refine z_iadd d_Mod_lays_34 ?_
    refine j_iload_n d_Mod_lays_35 rfl ?_
    refine z_iadd d_Mod_lays_36 ?_
    refine j_aload_n d_Mod_lays_37 rfl ?_
    refine mg_code f_Mod_58 d_Mod_lays_38 ?_
    refine j_iload_n d_Mod_lays_41 rfl ?_
    refine ml_code d_Mod_lays_42 (by omega) (by omega) ?_
    refine ms_kept d_Mod_lays_43 (by omega) (by omega) ?_
    refine j_aload_n d_Mod_lays_44 rfl ?_
    refine mg_kept f_Mod_32 d_Mod_lays_45 ?_
    refine z_sipush d_Mod_lays_48 (by decide) ?_
    refine z_sipush d_Mod_lays_51 (by decide) ?_
    refine j_iload_n d_Mod_lays_54 rfl ?_
    refine z_imul d_Mod_lays_55 ?_
    refine z_iadd d_Mod_lays_56 ?_
    refine j_iload_n d_Mod_lays_57 rfl ?_
    refine z_iadd d_Mod_lays_58 ?_
    refine j_aload_n d_Mod_lays_59 rfl ?_
    refine mg_value f_Mod_61 d_Mod_lays_60 ?_
    refine j_iload_n d_Mod_lays_63 rfl ?_
    refine ml_value d_Mod_lays_64 (by omega) (by omega) ?_
    refine ms_kept d_Mod_lays_65 (by omega) (by omega) ?_
    refine z_iinc d_Mod_lays_66 rfl (by decide) ?_
    show SJ _ _ _ _ [_, _, _] _ _ _ _ _
    rw [lay_st (K := x2) (C := x15) (V := x16) (N := i18) (f := f) (q := q) f0 f1 q0 (by omega)]
    refine j_goto (t := 15) d_Mod_lays_69 (by decide) ?_
    exact ih _ (by omega) _ rfl (by omega) (by omega)
theorem t_Mod_lays {g : Bool} {d : Nat} {Q : List xM → Option Value → Prop} {i0 i6 i8 i9 i10 i13 i14 i18 i19 i20 i21 i22 i23 i24 i25 i27 i28 i33 i42 i43 i44 i45 i46 i47 i48 i51 i52 : Int} {x1 x2 x3 x4 x5 x7 x11 x12 x15 x16 x17 x26 x29 x30 x31 x32 x34 x35 x36 x37 x38 x39 x40 x41 x49 x50 : Int → Int} {f : Int} (f0 : 0 ≤ f) (f1 : f ≤ 6) (n0 : 0 ≤ i18) (n1 : i18 ≤ 400) (hQ : Q (MM i0 i6 i8 i9 i10 i13 i14 i18 i19 i20 i21 i22 i23 i24 i25 i27 i28 i33 i42 i43 i44 i45 i46 i47 i48 i51 i52 x1 (lyK x2 x15 x16 i18 f) x3 x4 x5 x7 x11 x12 x15 x16 x17 x26 x29 x30 x31 x32 x34 x35 x36 x37 x38 x39 x40 x41 x49 x50) none) : CT g m_Mod_lays d [.ref 0, .int (ii f)] (MM i0 i6 i8 i9 i10 i13 i14 i18 i19 i20 i21 i22 i23 i24 i25 i27 i28 i33 i42 i43 i44 i45 i46 i47 i48 i51 i52 x1 x2 x3 x4 x5 x7 x11 x12 x15 x16 x17 x26 x29 x30 x31 x32 x34 x35 x36 x37 x38 x39 x40 x41 x49 x50) 0 0 Q := by
  refine CT.of (by decide) (Nat.le_of_ble_eq_true rfl) ?_
  show SJ _ _ _ _ [some (.ref 0), some (.int (ii f)), none] [] _ _ _ _
  refine j_aload_n d_Mod_lays_0 rfl ?_
  refine mg_kept f_Mod_32 d_Mod_lays_1 ?_
  refine z_bipush d_Mod_lays_4 (by decide) ?_
  refine j_iload_n d_Mod_lays_6 rfl ?_
  refine z_iadd d_Mod_lays_7 ?_
  refine j_aload_n d_Mod_lays_8 rfl ?_
  refine mg_tokens f_Mod_145 d_Mod_lays_9 ?_
  refine ms_kept d_Mod_lays_12 (by omega) (by omega) ?_
  refine z_iconst d_Mod_lays_13 ?_
  refine j_istore_n d_Mod_lays_14 (by decide) ?_
  show SJ _ _ _ _ [_, _, _] _ _ _ _ _
  have e0 : up x2 (26 + f) i18 = cpy x16 (cpy x15 (up x2 (26 + f) i18) 0 (33 + 400 * f) 0) 0 (2833 + 400 * f) 0 := by rw [cpy_0, cpy_0]
  rw [e0]
  exact lp_lays f0 f1 n0 n1 hQ _ 0 rfl (by omega) (by omega)
theorem t_Mod_law {g : Bool} {d : Nat} {Q : List xM → Option Value → Prop} {i0 i6 i8 i9 i10 i13 i14 i18 i19 i20 i21 i22 i23 i24 i25 i27 i28 i33 i42 i43 i44 i45 i46 i47 i48 i51 i52 : Int} {x1 x2 x3 x4 x5 x7 x11 x12 x15 x16 x17 x26 x29 x30 x31 x32 x34 x35 x36 x37 x38 x39 x40 x41 x49 x50 : Int → Int} (ht : ∀ j, 0 ≤ j → j < 400 → -128 ≤ x11 j ∧ x11 j ≤ 127) (hw7 : ∀ j, 0 ≤ j → j < 137 → x7 j = ofL TA j) (t0_ : 0 ≤ i13) (t1_ : i13 ≤ 400) {K_ : TKS} (hK : tkz x11 i13 (i18, x15, x16, x17) = K_) (l0_ : 0 ≤ x2 24) (l1_ : x2 24 ≤ 6) (hfull : x2 24 = 6 → Q (MM (-5) i6 i8 i9 i10 0 i14 i18 i19 i20 i21 i22 i23 i24 i25 i27 i28 i33 i42 i43 i44 i45 i46 i47 i48 i51 i52 (up x1 (0 - (-5)) (x1 (0 - (-5)) + 1)) x2 x3 x4 x5 x7 x11 x12 x15 x16 x17 x26 x29 x30 x31 x32 x34 x35 x36 x37 x38 x39 x40 x41 x49 x50) (some (.int (ii (-5))))) (her : x2 24 < 6 → ∀ t, pRd K_.2.1 K_.2.2.1 K_.1 0 9 16 = .inr t → ∀ j19 j20 j21, Q (MM (-6) i6 9 16 0 0 (K_.2.2.2 t) K_.1 j19 j20 j21 i22 i23 i24 i25 i27 i28 i33 i42 i43 i44 i45 i46 i47 i48 i51 i52 (up x1 (0 - (-6)) (x1 (0 - (-6)) + 1)) x2 x3 x4 x5 x7 x11 x12 K_.2.1 K_.2.2.1 K_.2.2.2 x26 x29 x30 x31 x32 x34 x35 x36 x37 x38 x39 x40 x41 x49 x50) (some (.int (ii (-6))))) (hok : x2 24 < 6 → ∀ cs t l, pRd K_.2.1 K_.2.2.1 K_.1 0 9 16 = .inl (cs, t, l) → ∀ j19 j20 j21, Q (MM 0 i6 9 16 0 0 (-1) K_.1 j19 j20 j21 i22 i23 i24 i25 i27 i28 i33 i42 i43 i44 i45 i46 i47 i48 i51 i52 x1 (up (lyK x2 K_.2.1 K_.2.2.1 K_.1 (x2 24)) 24 (x2 24 + 1)) x3 x4 x5 x7 x11 x12 K_.2.1 K_.2.2.1 K_.2.2.2 x26 x29 x30 x31 x32 x34 x35 x36 x37 x38 x39 x40 x41 x49 x50) (some (.int (ii (x2 24))))) : CT g m_Mod_law (d + 38) [.ref 0] (MM i0 i6 i8 i9 i10 i13 i14 i18 i19 i20 i21 i22 i23 i24 i25 i27 i28 i33 i42 i43 i44 i45 i46 i47 i48 i51 i52 x1 x2 x3 x4 x5 x7 x11 x12 x15 x16 x17 x26 x29 x30 x31 x32 x34 x35 x36 x37 x38 x39 x40 x41 x49 x50) 0 0 Q := by
  refine CT.of (by decide) (Nat.le_of_ble_eq_true rfl) ?_
  show SJ _ _ _ _ [some (.ref 0)] [] _ _ _ _
  have hz := tkz_R (t := x11) (size := i13) (q := (i18, x15, x16, x17)) t0_ t1_ (fun j a b => by have := ht j a (by omega); omega)
  rw [hK] at hz
  have hly : lyK x2 K_.2.1 K_.2.2.1 K_.1 (x2 24) 24 = x2 24 := by unfold lyK cpy; rw [if_neg (by omega), if_neg (by omega), up_ne (by omega)]
  refine j_aload_n d_Mod_law_0 rfl ?_
  refine mg_kept f_Mod_32 d_Mod_law_1 ?_
  refine z_bipush d_Mod_law_4 (by decide) ?_
  refine ml_kept d_Mod_law_6 (by omega) (by omega) ?_
  refine z_bipush d_Mod_law_7 (by decide) ?_
  refine z_icmp_ne (t := 24) d_Mod_law_9 (by decide) (by first | omega | exact hw _ | exact hx _ _ | assumption) (by first | omega | exact hw _ | exact hx _ _ | assumption) (fun h9 => ?_) (fun h9 => ?_)
  · refine j_aload_n d_Mod_law_24 rfl ?_
    refine z_iconst d_Mod_law_25 ?_
    refine v_call1 d_Mod_law_26 c_Mod_236 rfl ⟨_, rfl, rfl⟩ (Nat.le_of_ble_eq_true rfl) (t_Mod_readsAs0 ht hw7 t0_ t1_ hK (fun cs t l e j19 j20 j21 => ?_) (fun t e j19 j20 j21 => ?_))
    · refine z_if_ne (t := 39) d_Mod_law_29 (by decide) (by first | omega | exact hw _ | exact hx _ _ | assumption) (fun _ => ?_) (fun h => absurd h (by decide))
      refine j_aload_n d_Mod_law_39 rfl ?_
      refine j_aload_n d_Mod_law_40 rfl ?_
      refine mg_kept f_Mod_32 d_Mod_law_41 ?_
      refine z_bipush d_Mod_law_44 (by decide) ?_
      refine ml_kept d_Mod_law_46 (by omega) (by omega) ?_
      refine v_call1 d_Mod_law_47 c_Mod_240 rfl ⟨_, rfl, rfl⟩ (Nat.le_of_ble_eq_true rfl) (t_Mod_lays l0_ l1_ hz.1 hz.2.1 ?_)
      refine j_aload_n d_Mod_law_50 rfl ?_
      refine mg_kept f_Mod_32 d_Mod_law_51 ?_
      refine z_bipush d_Mod_law_54 (by decide) ?_
      refine j_dup2 d_Mod_law_56 rfl rfl ?_
      refine ml_kept d_Mod_law_57 (by omega) (by omega) ?_
      rw [hly]
      refine z_iconst d_Mod_law_58 ?_
      refine z_iadd d_Mod_law_59 ?_
      refine ms_kept d_Mod_law_60 (by omega) (by omega) ?_
      refine j_aload_n d_Mod_law_61 rfl ?_
      refine j_aload_n d_Mod_law_62 rfl ?_
      refine mg_kept f_Mod_32 d_Mod_law_63 ?_
      refine z_bipush d_Mod_law_66 (by decide) ?_
      refine ml_kept d_Mod_law_68 (by omega) (by omega) ?_
      rw [up_eq]
      refine z_iconst d_Mod_law_69 ?_
      refine z_isub d_Mod_law_70 ?_
      refine v_call1 d_Mod_law_71 c_Mod_14 rfl ⟨_, rfl, rfl⟩ (Nat.le_of_ble_eq_true rfl) (t_Mod_good  ?_)
      exact z_iret rfl d_Mod_law_74 (by omega) (hok (by omega) cs t l e _ _ _)
    · refine z_if_ne (t := 39) d_Mod_law_29 (by decide) (by first | omega | exact hw _ | exact hx _ _ | assumption) (fun h => absurd h (by decide)) (fun _ => ?_)
      refine j_aload_n d_Mod_law_32 rfl ?_
      refine z_bipush d_Mod_law_33 (by decide) ?_
      refine v_call1 d_Mod_law_35 c_Mod_119 rfl ⟨_, rfl, rfl⟩ (Nat.le_of_ble_eq_true rfl) (t_Mod_refuses (by omega) (by omega) ?_)
      exact z_iret rfl d_Mod_law_38 rfl (her (by omega) t e _ _ _)
  · refine j_aload_n d_Mod_law_12 rfl ?_
    refine z_iconst d_Mod_law_13 ?_
    refine mp_taped f_Mod_136 d_Mod_law_14 ?_
    refine j_aload_n d_Mod_law_17 rfl ?_
    refine z_bipush d_Mod_law_18 (by decide) ?_
    refine v_call1 d_Mod_law_20 c_Mod_119 rfl ⟨_, rfl, rfl⟩ (Nat.le_of_ble_eq_true rfl) (t_Mod_refuses (by omega) (by omega) ?_)
    exact z_iret rfl d_Mod_law_23 rfl (hfull (by omega))
