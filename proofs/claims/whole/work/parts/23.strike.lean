theorem lp_laysStruck3 {g : Bool} {d : Nat} {Q : List xM → Option Value → Prop} {i0 i6 i8 i9 i10 i13 i14 i18 i19 i20 i21 i22 i23 i24 i25 i27 i28 i33 i42 i43 i44 i45 i46 i47 i48 i51 i52 : Int} {x1 x2 x3 x4 x5 x7 x11 x12 x15 x16 x17 x26 x29 x30 x31 x32 x34 x35 x36 x37 x38 x39 x40 x41 x49 x50 : Int → Int} (hk : KOK x2) {a b r : Int} (a0 : 0 ≤ a) (a1 : a < b) (b1 : b ≤ x2 0) (za : ∀ p q, a < p → p ≤ q → q ≤ x2 0 → x34 (21 * p + q) = ST x2 p q) (hkk : SJ g m_Mod_laysStruck (d + 3) 51 [some (.ref 0), some (.int (ii (x2 0))), some (.int (ii a)), some (.int (ii (b + 1))), none, none] [] (MM i0 i6 i8 i9 i10 i13 i14 i18 i19 i20 i21 i22 i23 i24 i25 i27 i28 i33 i42 i43 i44 i45 i46 i47 i48 i51 i52 x1 x2 x3 x4 x5 x7 x11 x12 x15 x16 x17 x26 x29 x30 x31 x32 (up x34 (21 * a + b) r) x35 x36 x37 x38 x39 x40 x41 x49 x50) 0 0 Q) : ∀ (nn : Nat) (q : Int) (is : Int), (b - q).toNat = nn → a + 1 ≤ q → q ≤ b → 0 ≤ is → is ≤ 10000 → mnF (fun q => if prd x2 a q then ST x2 (a + 1) q + ST x2 (q + 1) b else 1000000) (b - q).toNat q is = r → SJ g m_Mod_laysStruck (d + 3) 93 [some (.ref 0), some (.int (ii (x2 0))), some (.int (ii a)), some (.int (ii b)), some (.int (ii is)), some (.int (ii q))] [] (MM i0 i6 i8 i9 i10 i13 i14 i18 i19 i20 i21 i22 i23 i24 i25 i27 i28 i33 i42 i43 i44 i45 i46 i47 i48 i51 i52 x1 x2 x3 x4 x5 x7 x11 x12 x15 x16 x17 x26 x29 x30 x31 x32 x34 x35 x36 x37 x38 x39 x40 x41 x49 x50) 0 0 Q := by
  intro nn
  induction nn using Nat.strongRecOn with
  | ind nn ih =>
  intro q is hn q0 q1 w0 w1 hR
  obtain ⟨⟨⟨hn0, hn1⟩, hs, hpg, hdp, hmo, hco, hfo⟩, hC, hz, hLw⟩ := id hk
  have f0 := hfo.1
  have f1 : x2 25 ≤ 5 := by omega
  clear hLw
  refine j_iload d_Mod_laysStruck_93 rfl ?_
  refine j_iload_n d_Mod_laysStruck_95 rfl ?_
  refine z_icmp_ge (t := 141) d_Mod_laysStruck_96 (by decide) (by first | omega | exact hw _ | exact hx _ _ | assumption) (by first | omega | exact hw _ | exact hx _ _ | assumption) (fun h96 => ?_) (fun h96 => ?_)
  · rw [mnF_0 (by omega)] at hR
    subst hR
    refine j_aload_n d_Mod_laysStruck_141 rfl ?_
    refine mg_least f_Mod_82 d_Mod_laysStruck_142 ?_
    refine z_bipush d_Mod_laysStruck_145 (by decide) ?_
    refine j_iload_n d_Mod_laysStruck_147 rfl ?_
    refine z_imul d_Mod_laysStruck_148 ?_
    refine j_iload_n d_Mod_laysStruck_149 rfl ?_
    refine z_iadd d_Mod_laysStruck_150 ?_
    refine j_iload d_Mod_laysStruck_151 rfl ?_
    refine ms_least d_Mod_laysStruck_153 (by omega) (by omega) ?_
    refine z_iinc d_Mod_laysStruck_154 rfl (by decide) ?_
    show SJ _ _ _ _ [_, _, _, _, _, _] _ _ _ _ _
    refine j_goto (t := 51) d_Mod_laysStruck_157 (by decide) ?_
    refine SJ.mask [true, true, true, true, false, false] ?_
    show SJ _ _ _ _ [_, _, _, _, none, none] _ _ _ _ _
    exact hkk
  · have hsa := hs a (by omega) (by omega)
    have hsq := hs q (by omega) (by omega)
    rw [mnF_s (by omega)] at hR
    have t2 := ST_R2 (a := a + 1) (b := q) hk (by omega) (by omega) (by omega)
    have t5 := ST_R2 (a := q + 1) (b := b) hk (by omega) (by omega) (by omega)
    refine j_aload_n d_Mod_laysStruck_99 rfl ?_
    refine j_iload_n d_Mod_laysStruck_100 rfl ?_
    refine j_iload d_Mod_laysStruck_101 rfl ?_
    refine v_call2 d_Mod_laysStruck_103 c_Mod_381 rfl ⟨_, rfl, rfl⟩ (Nat.le_of_ble_eq_true rfl) (t_Mod_arePair (by omega) (by omega) (by omega) (by omega) hsa.1 hsa.2 hsq.1 hsq.2 (fun h103 => ?_) (fun h103 => ?_))
    · refine z_if_eq (t := 135) d_Mod_laysStruck_106 (by decide) (by first | omega | exact hw _ | exact hx _ _ | assumption) (fun h => absurd h (by decide)) (fun _ => ?_)
      refine j_iload d_Mod_laysStruck_109 rfl ?_
      refine j_aload_n d_Mod_laysStruck_111 rfl ?_
      refine j_iload_n d_Mod_laysStruck_112 rfl ?_
      refine z_iconst d_Mod_laysStruck_113 ?_
      refine z_iadd d_Mod_laysStruck_114 ?_
      refine j_iload d_Mod_laysStruck_115 rfl ?_
      refine v_call2 d_Mod_laysStruck_117 c_Mod_384 rfl ⟨_, rfl, rfl⟩ (Nat.le_of_ble_eq_true rfl) (t_Mod_leastOf (by omega) (by omega) (by omega) (by omega) ?_)
      refine j_aload_n d_Mod_laysStruck_120 rfl ?_
      refine j_iload d_Mod_laysStruck_121 rfl ?_
      refine z_iconst d_Mod_laysStruck_123 ?_
      refine z_iadd d_Mod_laysStruck_124 ?_
      refine j_iload_n d_Mod_laysStruck_125 rfl ?_
      refine v_call2 d_Mod_laysStruck_126 c_Mod_384 rfl ⟨_, rfl, rfl⟩ (Nat.le_of_ble_eq_true rfl) (t_Mod_leastOf (by omega) (by omega) (by omega) (by omega) ?_)
      rw [za (a + 1) q (by omega) (by omega) (by omega), za (q + 1) b (by omega) (by omega) (by omega)]
      rw [if_pos h103] at hR
      refine z_iadd d_Mod_laysStruck_129 ?_
      refine s_call2 d_Mod_laysStruck_130 c_Mod_387 (Nat.le_of_ble_eq_true rfl) (t_Mod_lesser (by first | omega | exact hw _ | exact hx _ _ | assumption) (by first | omega | exact hw _ | exact hx _ _ | assumption) ?_)
      refine j_istore d_Mod_laysStruck_133 (by decide) ?_
      show SJ _ _ _ _ [_, _, _, _, _, _] _ _ _ _ _
      refine z_iinc d_Mod_laysStruck_135 rfl (by decide) ?_
      show SJ _ _ _ _ [_, _, _, _, _, _] _ _ _ _ _
      refine j_goto (t := 93) d_Mod_laysStruck_138 (by decide) ?_
      first
      | (rw [if_neg h103, show min is (1000000 : Int) = is by omega] at hR
         exact ih _ (by omega) _ _ rfl (by omega) (by omega) (by omega) (by omega) hR)
      | exact ih _ (by omega) _ _ rfl (by omega) (by omega) (by omega) (by omega) hR
    · refine z_if_eq (t := 135) d_Mod_laysStruck_106 (by decide) (by first | omega | exact hw _ | exact hx _ _ | assumption) (fun _ => ?_) (fun h => absurd h (by decide))
      refine z_iinc d_Mod_laysStruck_135 rfl (by decide) ?_
      show SJ _ _ _ _ [_, _, _, _, _, _] _ _ _ _ _
      refine j_goto (t := 93) d_Mod_laysStruck_138 (by decide) ?_
      first
      | (rw [if_neg h103, show min is (1000000 : Int) = is by omega] at hR
         exact ih _ (by omega) _ _ rfl (by omega) (by omega) (by omega) (by omega) hR)
      | exact ih _ (by omega) _ _ rfl (by omega) (by omega) (by omega) (by omega) hR
theorem lp_laysStruck2 {g : Bool} {d : Nat} {Q : List xM → Option Value → Prop} {i0 i6 i8 i9 i10 i13 i14 i18 i19 i20 i21 i22 i23 i24 i25 i27 i28 i33 i42 i43 i44 i45 i46 i47 i48 i51 i52 : Int} {x1 x2 x3 x4 x5 x7 x11 x12 x15 x16 x17 x26 x29 x30 x31 x32 x35 x36 x37 x38 x39 x40 x41 x49 x50 : Int → Int} (hk : KOK x2) (hw6 : ∀ p, 0 ≤ p → p < x2 0 → x36 p = sk x2 p) {a : Int} (a0 : 0 ≤ a) (a1 : a ≤ x2 0) (hkk : ∀ z, (∀ p q, a - 1 < p → p ≤ q → q ≤ x2 0 → z (21 * p + q) = ST x2 p q) → SJ g m_Mod_laysStruck (d + 3) 31 [some (.ref 0), some (.int (ii (x2 0))), some (.int (ii (a - 1))), none, none, none] [] (MM i0 i6 i8 i9 i10 i13 i14 i18 i19 i20 i21 i22 i23 i24 i25 i27 i28 i33 i42 i43 i44 i45 i46 i47 i48 i51 i52 x1 x2 x3 x4 x5 x7 x11 x12 x15 x16 x17 x26 x29 x30 x31 x32 z x35 x36 x37 x38 x39 x40 x41 x49 x50) 0 0 Q) : ∀ (nn : Nat) (b : Int) (z : Int → Int), (x2 0 + 1 - b).toNat = nn → a + 1 ≤ b → b ≤ x2 0 + 1 → (∀ p q, a < p → p ≤ q → q ≤ x2 0 → z (21 * p + q) = ST x2 p q) → (∀ q, a ≤ q → q < b → z (21 * a + q) = ST x2 a q) → SJ g m_Mod_laysStruck (d + 3) 51 [some (.ref 0), some (.int (ii (x2 0))), some (.int (ii a)), some (.int (ii b)), none, none] [] (MM i0 i6 i8 i9 i10 i13 i14 i18 i19 i20 i21 i22 i23 i24 i25 i27 i28 i33 i42 i43 i44 i45 i46 i47 i48 i51 i52 x1 x2 x3 x4 x5 x7 x11 x12 x15 x16 x17 x26 x29 x30 x31 x32 z x35 x36 x37 x38 x39 x40 x41 x49 x50) 0 0 Q := by
  intro nn
  induction nn using Nat.strongRecOn with
  | ind nn ih =>
  intro b z hn b0 b1 za zb
  obtain ⟨⟨⟨hn0, hn1⟩, hs, hpg, hdp, hmo, hco, hfo⟩, hC, hz, hLw⟩ := id hk
  have f0 := hfo.1
  have f1 : x2 25 ≤ 5 := by omega
  clear hLw
  refine j_iload_n d_Mod_laysStruck_51 rfl ?_
  refine j_iload_n d_Mod_laysStruck_52 rfl ?_
  refine z_icmp_gt (t := 160) d_Mod_laysStruck_53 (by decide) (by first | omega | exact hw _ | exact hx _ _ | assumption) (by first | omega | exact hw _ | exact hx _ _ | assumption) (fun h53 => ?_) (fun h53 => ?_)
  · refine z_iinc d_Mod_laysStruck_160 rfl (by decide) ?_
    show SJ _ _ _ _ [_, _, _, _, _, _] _ _ _ _ _
    refine j_goto (t := 31) d_Mod_laysStruck_163 (by decide) ?_
    refine SJ.mask [true, true, true, false, false, false] ?_
    show SJ _ _ _ _ [_, _, _, none, none, none] _ _ _ _ _
    rw [show a + -1 = a - 1 by omega]
    refine hkk z (fun p q e1 e2 e3 => ?_)
    by_cases e : p = a
    · subst e
      exact zb q (by omega) (by omega)
    · exact za p q (by omega) e2 e3
  · have hsa := hs a (by omega) (by omega)
    have hM := ST_R2 (a := a + 1) (b := b) hk (by omega) (by omega) (by omega)
    have hska := sk_R (p := a) hk (by omega) (by omega)
    refine j_aload_n d_Mod_laysStruck_56 rfl ?_
    refine j_iload_n d_Mod_laysStruck_57 rfl ?_
    refine z_iconst d_Mod_laysStruck_58 ?_
    refine z_iadd d_Mod_laysStruck_59 ?_
    refine j_iload_n d_Mod_laysStruck_60 rfl ?_
    refine v_call2 d_Mod_laysStruck_61 c_Mod_384 rfl ⟨_, rfl, rfl⟩ (Nat.le_of_ble_eq_true rfl) (t_Mod_leastOf (by omega) (by omega) (by omega) (by omega) ?_)
    rw [za (a + 1) b (by omega) (by omega) (by omega)]
    refine j_aload_n d_Mod_laysStruck_64 rfl ?_
    refine j_iload_n d_Mod_laysStruck_65 rfl ?_
    refine v_call1 d_Mod_laysStruck_66 c_Mod_324 rfl ⟨_, rfl, rfl⟩ (Nat.le_of_ble_eq_true rfl) (t_Mod_signAt (by omega) (by omega) ?_)
    refine s_call1 d_Mod_laysStruck_69 c_Mod_22 (Nat.le_of_ble_eq_true rfl) (t_Mod_isName (by first | omega | exact hw _ | exact hx _ _ | assumption) (fun h69 => ?_) (fun h69 => ?_))
    · refine z_if_eq (t := 79) d_Mod_laysStruck_72 (by decide) (by first | omega | exact hw _ | exact hx _ _ | assumption) (fun h => absurd h (by decide)) (fun _ => ?_)
      refine z_iconst d_Mod_laysStruck_75 ?_
      refine j_goto (t := 85) d_Mod_laysStruck_76 (by decide) ?_
      refine z_iadd d_Mod_laysStruck_85 ?_
      refine j_istore d_Mod_laysStruck_86 (by decide) ?_
      show SJ _ _ _ _ [_, _, _, _, _, _] _ _ _ _ _
      refine j_iload_n d_Mod_laysStruck_88 rfl ?_
      refine z_iconst d_Mod_laysStruck_89 ?_
      refine z_iadd d_Mod_laysStruck_90 ?_
      refine j_istore d_Mod_laysStruck_91 (by decide) ?_
      show SJ _ _ _ _ [_, _, _, _, _, _] _ _ _ _ _
      refine lp_laysStruck3 hk (by omega) (by omega) (by omega) za ?_ _ (a + 1) _ rfl (by omega) (by omega) (by omega) (by omega) rfl
      exact ih _ (by omega) _ _ rfl (by omega) (by omega) (fun p q e1 e2 e3 => by rw [up_ne (by omega)]; exact za p q e1 e2 e3) (fun q e1 e2 => by by_cases e : q = b; (subst e; rw [up_eq]; exact ((ST_eq (by omega)).trans (stS_def.trans (by first | rw [if_pos (by omega)] | rw [if_neg (by omega)]))).symm); (rw [up_ne (by omega)]; exact zb q e1 (by omega)))
    · refine z_if_eq (t := 79) d_Mod_laysStruck_72 (by decide) (by first | omega | exact hw _ | exact hx _ _ | assumption) (fun _ => ?_) (fun h => absurd h (by decide))
      refine j_aload_n d_Mod_laysStruck_79 rfl ?_
      refine mg_strikes0 f_Mod_88 d_Mod_laysStruck_80 ?_
      refine j_iload_n d_Mod_laysStruck_83 rfl ?_
      refine ml_strikes0 d_Mod_laysStruck_84 (by omega) (by omega) ?_
      rw [hw6 a (by omega) (by omega)]
      refine z_iadd d_Mod_laysStruck_85 ?_
      refine j_istore d_Mod_laysStruck_86 (by decide) ?_
      show SJ _ _ _ _ [_, _, _, _, _, _] _ _ _ _ _
      refine j_iload_n d_Mod_laysStruck_88 rfl ?_
      refine z_iconst d_Mod_laysStruck_89 ?_
      refine z_iadd d_Mod_laysStruck_90 ?_
      refine j_istore d_Mod_laysStruck_91 (by decide) ?_
      show SJ _ _ _ _ [_, _, _, _, _, _] _ _ _ _ _
      refine lp_laysStruck3 hk (by omega) (by omega) (by omega) za ?_ _ (a + 1) _ rfl (by omega) (by omega) (by omega) (by omega) rfl
      exact ih _ (by omega) _ _ rfl (by omega) (by omega) (fun p q e1 e2 e3 => by rw [up_ne (by omega)]; exact za p q e1 e2 e3) (fun q e1 e2 => by by_cases e : q = b; (subst e; rw [up_eq]; exact ((ST_eq (by omega)).trans (stS_def.trans (by first | rw [if_pos (by omega)] | rw [if_neg (by omega)]))).symm); (rw [up_ne (by omega)]; exact zb q e1 (by omega)))
theorem lp_laysStruck1 {g : Bool} {d : Nat} {Q : List xM → Option Value → Prop} {i0 i6 i8 i9 i10 i13 i14 i18 i19 i20 i21 i22 i23 i24 i25 i27 i28 i33 i42 i43 i44 i45 i46 i47 i48 i51 i52 : Int} {x1 x2 x3 x4 x5 x7 x11 x12 x15 x16 x17 x26 x29 x30 x31 x32 x35 x36 x37 x38 x39 x40 x41 x49 x50 : Int → Int} (hk : KOK x2) (hw6 : ∀ p, 0 ≤ p → p < x2 0 → x36 p = sk x2 p) (hQ : ∀ z, (∀ p q, 0 ≤ p → p ≤ q → q ≤ x2 0 → z (21 * p + q) = ST x2 p q) → Q (MM i0 i6 i8 i9 i10 i13 i14 i18 i19 i20 i21 i22 i23 i24 i25 i27 i28 i33 i42 i43 i44 i45 i46 i47 i48 i51 i52 x1 x2 x3 x4 x5 x7 x11 x12 x15 x16 x17 x26 x29 x30 x31 x32 z x35 x36 x37 x38 x39 x40 x41 x49 x50) none) : ∀ (nn : Nat) (a : Int) (z : Int → Int), (a + 1).toNat = nn → -1 ≤ a → a ≤ x2 0 → (∀ p q, a < p → p ≤ q → q ≤ x2 0 → z (21 * p + q) = ST x2 p q) → SJ g m_Mod_laysStruck (d + 3) 31 [some (.ref 0), some (.int (ii (x2 0))), some (.int (ii a)), none, none, none] [] (MM i0 i6 i8 i9 i10 i13 i14 i18 i19 i20 i21 i22 i23 i24 i25 i27 i28 i33 i42 i43 i44 i45 i46 i47 i48 i51 i52 x1 x2 x3 x4 x5 x7 x11 x12 x15 x16 x17 x26 x29 x30 x31 x32 z x35 x36 x37 x38 x39 x40 x41 x49 x50) 0 0 Q := by
  intro nn
  induction nn using Nat.strongRecOn with
  | ind nn ih =>
  intro a z hn a0 a1 za
  obtain ⟨⟨⟨hn0, hn1⟩, hs, hpg, hdp, hmo, hco, hfo⟩, hC, hz, hLw⟩ := id hk
  have f0 := hfo.1
  have f1 : x2 25 ≤ 5 := by omega
  clear hLw
  refine j_iload_n d_Mod_laysStruck_31 rfl ?_
  refine z_if_lt (t := 166) d_Mod_laysStruck_32 (by decide) (by first | omega | exact hw _ | exact hx _ _ | assumption) (fun h32 => ?_) (fun h32 => ?_)
  · exact j_return rfl d_Mod_laysStruck_166 (hQ z (fun p q e1 e2 e3 => za p q (by omega) e2 e3))
  · refine j_aload_n d_Mod_laysStruck_35 rfl ?_
    refine mg_least f_Mod_82 d_Mod_laysStruck_36 ?_
    refine z_bipush d_Mod_laysStruck_39 (by decide) ?_
    refine j_iload_n d_Mod_laysStruck_41 rfl ?_
    refine z_imul d_Mod_laysStruck_42 ?_
    refine j_iload_n d_Mod_laysStruck_43 rfl ?_
    refine z_iadd d_Mod_laysStruck_44 ?_
    refine z_iconst d_Mod_laysStruck_45 ?_
    refine ms_least d_Mod_laysStruck_46 (by omega) (by omega) ?_
    refine j_iload_n d_Mod_laysStruck_47 rfl ?_
    refine z_iconst d_Mod_laysStruck_48 ?_
    refine z_iadd d_Mod_laysStruck_49 ?_
    refine j_istore_n d_Mod_laysStruck_50 (by decide) ?_
    show SJ _ _ _ _ [_, _, _, _, _, _] _ _ _ _ _
    refine lp_laysStruck2 hk hw6 (by omega) (by omega) (fun z2 h2 => ?_) _ (a + 1) _ rfl (by omega) (by omega) (fun p q e1 e2 e3 => by rw [up_ne (by omega)]; exact za p q e1 e2 e3) (fun q e1 e2 => by rw [show q = a by omega, up_eq, ST_self])
    exact ih _ (by omega) _ _ rfl (by omega) (by omega) h2
theorem lp_laysStruck {g : Bool} {d : Nat} {Q : List xM → Option Value → Prop} {i0 i6 i8 i9 i10 i13 i14 i18 i19 i20 i21 i27 i28 i33 i42 i43 i44 i45 i46 i47 i48 i51 i52 : Int} {x1 x2 x3 x4 x5 x7 x11 x12 x15 x16 x17 x31 x32 x34 x35 x37 x38 x39 x40 x41 x49 x50 : Int → Int} (hk : KOK x2) (hQ : ∀ z y36, (∀ p q, 0 ≤ p → p ≤ q → q ≤ x2 0 → z (21 * p + q) = ST x2 p q) → ∀ j22 j23 j24 j25 y26 y29 y30, Q (MM i0 i6 i8 i9 i10 i13 i14 i18 i19 i20 i21 j22 j23 j24 j25 i27 i28 i33 i42 i43 i44 i45 i46 i47 i48 i51 i52 x1 x2 x3 x4 x5 x7 x11 x12 x15 x16 x17 y26 y29 y30 x31 x32 z x35 y36 x37 x38 x39 x40 x41 x49 x50) none) : ∀ (nn : Nat) (p : Int) (y36 : Int → Int) (j22 : Int) (j23 : Int) (j24 : Int) (j25 : Int) (y26 : Int → Int) (y29 : Int → Int) (y30 : Int → Int), (x2 0 - p).toNat = nn → 0 ≤ p → p ≤ x2 0 → (∀ j, 0 ≤ j → j < p → y36 j = sk x2 j) → SJ g m_Mod_laysStruck (d + 89) 7 [some (.ref 0), some (.int (ii (x2 0))), some (.int (ii p)), none, none, none] [] (MM i0 i6 i8 i9 i10 i13 i14 i18 i19 i20 i21 j22 j23 j24 j25 i27 i28 i33 i42 i43 i44 i45 i46 i47 i48 i51 i52 x1 x2 x3 x4 x5 x7 x11 x12 x15 x16 x17 y26 y29 y30 x31 x32 x34 x35 y36 x37 x38 x39 x40 x41 x49 x50) 0 0 Q := by
  intro nn
  induction nn using Nat.strongRecOn with
  | ind nn ih =>
  intro p y36 j22 j23 j24 j25 y26 y29 y30 hn p0 p1 hy
  obtain ⟨⟨⟨hn0, hn1⟩, hs, hpg, hdp, hmo, hco, hfo⟩, hC, hz, hLw⟩ := id hk
  have f0 := hfo.1
  have f1 : x2 25 ≤ 5 := by omega
  clear hLw
  refine j_iload_n d_Mod_laysStruck_7 rfl ?_
  refine j_iload_n d_Mod_laysStruck_8 rfl ?_
  refine z_icmp_ge (t := 29) d_Mod_laysStruck_9 (by decide) (by first | omega | exact hw _ | exact hx _ _ | assumption) (by first | omega | exact hw _ | exact hx _ _ | assumption) (fun h9 => ?_) (fun h9 => ?_)
  · refine j_iload_n d_Mod_laysStruck_29 rfl ?_
    refine j_istore_n d_Mod_laysStruck_30 (by decide) ?_
    show SJ _ _ _ _ [_, _, _, _, _, _] _ _ _ _ _
    exact lp_laysStruck1 (d := d + 86) (x36 := y36) hk (fun j e1 e2 => hy j e1 (by omega)) (fun z hz => hQ z y36 hz _ _ _ _ _ _ _) _ (x2 0) _ rfl (by omega) (by omega) (fun p q e1 e2 e3 => by omega)
  · have hsp := hs p (by omega) (by omega)
    refine j_aload_n d_Mod_laysStruck_12 rfl ?_
    refine mg_strikes0 f_Mod_88 d_Mod_laysStruck_13 ?_
    refine j_iload_n d_Mod_laysStruck_16 rfl ?_
    refine j_aload_n d_Mod_laysStruck_17 rfl ?_
    refine j_iload_n d_Mod_laysStruck_18 rfl ?_
    refine v_call1 d_Mod_laysStruck_19 c_Mod_360 rfl ⟨_, rfl, rfl⟩ (Nat.le_of_ble_eq_true rfl) (t_Mod_strikesFor hn0 hn1 hs hC f0 f1 hz (by omega) (by omega) (hk.has (head := 2) (s := x2 (1 + p)) (p := p) (wo := 1) (by omega) (by omega) (by omega) (by omega)) (fun l22 l23 l24 l25 w26 w29 w30 => ?_))
    refine ms_strikes0 d_Mod_laysStruck_22 (by omega) (by omega) ?_
    refine z_iinc d_Mod_laysStruck_23 rfl (by decide) ?_
    show SJ _ _ _ _ [_, _, _, _, _, _] _ _ _ _ _
    refine j_goto (t := 7) d_Mod_laysStruck_26 (by decide) ?_
    exact ih _ (by omega) _ _ _ _ _ _ _ _ _ rfl (by omega) (by omega) (fun j e1 e2 => by by_cases e : j = p; (subst e; rw [up_eq]; rfl); (rw [up_ne e]; exact hy j e1 (by omega)))
theorem t_Mod_laysStruck {g : Bool} {d : Nat} {Q : List xM → Option Value → Prop} {i0 i6 i8 i9 i10 i13 i14 i18 i19 i20 i21 i22 i23 i24 i25 i27 i28 i33 i42 i43 i44 i45 i46 i47 i48 i51 i52 : Int} {x1 x2 x3 x4 x5 x7 x11 x12 x15 x16 x17 x26 x29 x30 x31 x32 x34 x35 x36 x37 x38 x39 x40 x41 x49 x50 : Int → Int} (hk : KOK x2) (hQ : ∀ z y36, (∀ p q, 0 ≤ p → p ≤ q → q ≤ x2 0 → z (21 * p + q) = ST x2 p q) → ∀ j22 j23 j24 j25 y26 y29 y30, Q (MM i0 i6 i8 i9 i10 i13 i14 i18 i19 i20 i21 j22 j23 j24 j25 i27 i28 i33 i42 i43 i44 i45 i46 i47 i48 i51 i52 x1 x2 x3 x4 x5 x7 x11 x12 x15 x16 x17 y26 y29 y30 x31 x32 z x35 y36 x37 x38 x39 x40 x41 x49 x50) none) : CT g m_Mod_laysStruck (d + 89) [.ref 0] (MM i0 i6 i8 i9 i10 i13 i14 i18 i19 i20 i21 i22 i23 i24 i25 i27 i28 i33 i42 i43 i44 i45 i46 i47 i48 i51 i52 x1 x2 x3 x4 x5 x7 x11 x12 x15 x16 x17 x26 x29 x30 x31 x32 x34 x35 x36 x37 x38 x39 x40 x41 x49 x50) 0 0 Q := by
  refine CT.of (by decide) (Nat.le_of_ble_eq_true rfl) ?_
  show SJ _ _ _ _ [some (.ref 0), none, none, none, none, none] [] _ _ _ _
  obtain ⟨⟨⟨hn0, hn1⟩, hs, hpg, hdp, hmo, hco, hfo⟩, hC, hz, hLw⟩ := id hk
  have f0 := hfo.1
  have f1 : x2 25 ≤ 5 := by omega
  clear hLw
  refine j_aload_n d_Mod_laysStruck_0 rfl ?_
  refine v_call0 d_Mod_laysStruck_1 c_Mod_125 rfl ⟨_, rfl, rfl⟩ (Nat.le_of_ble_eq_true rfl) (t_Mod_length  ?_)
  refine j_istore_n d_Mod_laysStruck_4 (by decide) ?_
  show SJ _ _ _ _ [_, _, _, _, _, _] _ _ _ _ _
  refine z_iconst d_Mod_laysStruck_5 ?_
  refine j_istore_n d_Mod_laysStruck_6 (by decide) ?_
  show SJ _ _ _ _ [_, _, _, _, _, _] _ _ _ _ _
  exact lp_laysStruck hk hQ _ 0 _ _ _ _ _ _ _ _ rfl (by omega) (by omega) (fun j e1 e2 => by omega)
theorem lp_mateOf {g : Bool} {d : Nat} {Q : List xM → Option Value → Prop} {i0 i6 i8 i9 i10 i13 i14 i18 i19 i20 i21 i22 i23 i24 i25 i27 i28 i33 i42 i43 i44 i45 i46 i47 i48 i51 i52 : Int} {x1 x2 x3 x4 x5 x7 x11 x12 x15 x16 x17 x26 x29 x30 x31 x32 x34 x35 x36 x37 x38 x39 x40 x41 x49 x50 : Int → Int} (hk : KOK x2) (hT : ∀ p q, 0 ≤ p → p ≤ q → q ≤ x2 0 → x34 (21 * p + q) = ST x2 p q) {a b : Int} (a0 : 0 ≤ a) (a1 : a < b) (b1 : b ≤ x2 0) {r : Int} (hQ : Q (MM i0 i6 i8 i9 i10 i13 i14 i18 i19 i20 i21 i22 i23 i24 i25 i27 i28 i33 i42 i43 i44 i45 i46 i47 i48 i51 i52 x1 x2 x3 x4 x5 x7 x11 x12 x15 x16 x17 x26 x29 x30 x31 x32 x34 x35 x36 x37 x38 x39 x40 x41 x49 x50) (some (.int (ii r)))) : ∀ (nn : Nat) (q : Int), (b - q).toNat = nn → a + 1 ≤ q → q ≤ b → fsF (mtP x2 a b) (b - q).toNat q = r → SJ g m_Mod_mateOf (d + 3) 4 [some (.ref 0), some (.int (ii a)), some (.int (ii b)), some (.int (ii q))] [] (MM i0 i6 i8 i9 i10 i13 i14 i18 i19 i20 i21 i22 i23 i24 i25 i27 i28 i33 i42 i43 i44 i45 i46 i47 i48 i51 i52 x1 x2 x3 x4 x5 x7 x11 x12 x15 x16 x17 x26 x29 x30 x31 x32 x34 x35 x36 x37 x38 x39 x40 x41 x49 x50) 0 0 Q := by
  intro nn
  induction nn using Nat.strongRecOn with
  | ind nn ih =>
  intro q hn q0 q1 hR
  obtain ⟨⟨⟨hn0, hn1⟩, hs, hpg, hdp, hmo, hco, hfo⟩, hC, hz, hLw⟩ := id hk
  have f0 := hfo.1
  have f1 : x2 25 ≤ 5 := by omega
  clear hLw
  refine j_iload_n d_Mod_mateOf_4 rfl ?_
  refine j_iload_n d_Mod_mateOf_5 rfl ?_
  refine z_icmp_ge (t := 52) d_Mod_mateOf_6 (by decide) (by first | omega | exact hw _ | exact hx _ _ | assumption) (by first | omega | exact hw _ | exact hx _ _ | assumption) (fun h6 => ?_) (fun h6 => ?_)
  · rw [show (b - q).toNat = 0 by omega] at hR
    simp only [fsF] at hR
    subst hR
    refine z_iconst d_Mod_mateOf_52 ?_
    exact j_ireturn rfl d_Mod_mateOf_53 hQ
  · have hsa := hs a (by omega) (by omega)
    have hsq := hs q (by omega) (by omega)
    rw [show (b - q).toNat = (b - (q + 1)).toNat + 1 by omega] at hR
    simp only [fsF] at hR
    have t1 := ST_R2 (a := a + 1) (b := q) hk (by omega) (by omega) (by omega)
    have t2 := ST_R2 (a := q + 1) (b := b) hk (by omega) (by omega) (by omega)
    have t3 := ST_R2 (a := a) (b := b) hk (by omega) (by omega) (by omega)
    refine j_aload_n d_Mod_mateOf_9 rfl ?_
    refine j_iload_n d_Mod_mateOf_10 rfl ?_
    refine j_iload_n d_Mod_mateOf_11 rfl ?_
    refine v_call2 d_Mod_mateOf_12 c_Mod_381 rfl ⟨_, rfl, rfl⟩ (Nat.le_of_ble_eq_true rfl) (t_Mod_arePair (by omega) (by omega) (by omega) (by omega) hsa.1 hsa.2 hsq.1 hsq.2 (fun h12 => ?_) (fun h12 => ?_))
    · refine z_if_eq (t := 46) d_Mod_mateOf_15 (by decide) (by first | omega | exact hw _ | exact hx _ _ | assumption) (fun h => absurd h (by decide)) (fun _ => ?_)
      refine j_aload_n d_Mod_mateOf_18 rfl ?_
      refine j_iload_n d_Mod_mateOf_19 rfl ?_
      refine z_iconst d_Mod_mateOf_20 ?_
      refine z_iadd d_Mod_mateOf_21 ?_
      refine j_iload_n d_Mod_mateOf_22 rfl ?_
      refine v_call2 d_Mod_mateOf_23 c_Mod_384 rfl ⟨_, rfl, rfl⟩ (Nat.le_of_ble_eq_true rfl) (t_Mod_leastOf (by omega) (by omega) (by omega) (by omega) ?_)
      refine j_aload_n d_Mod_mateOf_26 rfl ?_
      refine j_iload_n d_Mod_mateOf_27 rfl ?_
      refine z_iconst d_Mod_mateOf_28 ?_
      refine z_iadd d_Mod_mateOf_29 ?_
      refine j_iload_n d_Mod_mateOf_30 rfl ?_
      refine v_call2 d_Mod_mateOf_31 c_Mod_384 rfl ⟨_, rfl, rfl⟩ (Nat.le_of_ble_eq_true rfl) (t_Mod_leastOf (by omega) (by omega) (by omega) (by omega) ?_)
      refine z_iadd d_Mod_mateOf_34 ?_
      refine j_aload_n d_Mod_mateOf_35 rfl ?_
      refine j_iload_n d_Mod_mateOf_36 rfl ?_
      refine j_iload_n d_Mod_mateOf_37 rfl ?_
      refine v_call2 d_Mod_mateOf_38 c_Mod_384 rfl ⟨_, rfl, rfl⟩ (Nat.le_of_ble_eq_true rfl) (t_Mod_leastOf (by omega) (by omega) (by omega) (by omega) ?_)
      rw [hT (a + 1) q (by omega) (by omega) (by omega), hT (q + 1) b (by omega) (by omega) (by omega), hT a b (by omega) (by omega) (by omega)]
      refine z_icmp_ne (t := 46) d_Mod_mateOf_41 (by decide) (by first | omega | exact hw _ | exact hx _ _ | assumption) (by first | omega | exact hw _ | exact hx _ _ | assumption) (fun h41 => ?_) (fun h41 => ?_)
      · refine z_iinc d_Mod_mateOf_46 rfl (by decide) ?_
        show SJ _ _ _ _ [_, _, _, _] _ _ _ _ _
        refine j_goto (t := 4) d_Mod_mateOf_49 (by decide) ?_
        first
        | (rw [if_neg (fun qq => h12 qq.1)] at hR
           exact ih _ (by omega) _ rfl (by omega) (by omega) hR)
        | (rw [if_neg (fun qq => absurd qq.2 (by omega))] at hR
           exact ih _ (by omega) _ rfl (by omega) (by omega) hR)
      · refine j_iload_n d_Mod_mateOf_44 rfl ?_
        rw [if_pos ⟨h12, by omega⟩] at hR
        subst hR
        exact j_ireturn rfl d_Mod_mateOf_45 hQ
    · refine z_if_eq (t := 46) d_Mod_mateOf_15 (by decide) (by first | omega | exact hw _ | exact hx _ _ | assumption) (fun _ => ?_) (fun h => absurd h (by decide))
      refine z_iinc d_Mod_mateOf_46 rfl (by decide) ?_
      show SJ _ _ _ _ [_, _, _, _] _ _ _ _ _
      refine j_goto (t := 4) d_Mod_mateOf_49 (by decide) ?_
      first
      | (rw [if_neg (fun qq => h12 qq.1)] at hR
         exact ih _ (by omega) _ rfl (by omega) (by omega) hR)
      | (rw [if_neg (fun qq => absurd qq.2 (by omega))] at hR
         exact ih _ (by omega) _ rfl (by omega) (by omega) hR)
theorem t_Mod_mateOf {g : Bool} {d : Nat} {Q : List xM → Option Value → Prop} {i0 i6 i8 i9 i10 i13 i14 i18 i19 i20 i21 i22 i23 i24 i25 i27 i28 i33 i42 i43 i44 i45 i46 i47 i48 i51 i52 : Int} {x1 x2 x3 x4 x5 x7 x11 x12 x15 x16 x17 x26 x29 x30 x31 x32 x34 x35 x36 x37 x38 x39 x40 x41 x49 x50 : Int → Int} (hk : KOK x2) (hT : ∀ p q, 0 ≤ p → p ≤ q → q ≤ x2 0 → x34 (21 * p + q) = ST x2 p q) {a b : Int} (a0 : 0 ≤ a) (a1 : a < b) (b1 : b ≤ x2 0) (hQ : Q (MM i0 i6 i8 i9 i10 i13 i14 i18 i19 i20 i21 i22 i23 i24 i25 i27 i28 i33 i42 i43 i44 i45 i46 i47 i48 i51 i52 x1 x2 x3 x4 x5 x7 x11 x12 x15 x16 x17 x26 x29 x30 x31 x32 x34 x35 x36 x37 x38 x39 x40 x41 x49 x50) (some (.int (ii (mtS x2 a b))))) : CT g m_Mod_mateOf (d + 3) [.ref 0, .int (ii a), .int (ii b)] (MM i0 i6 i8 i9 i10 i13 i14 i18 i19 i20 i21 i22 i23 i24 i25 i27 i28 i33 i42 i43 i44 i45 i46 i47 i48 i51 i52 x1 x2 x3 x4 x5 x7 x11 x12 x15 x16 x17 x26 x29 x30 x31 x32 x34 x35 x36 x37 x38 x39 x40 x41 x49 x50) 0 0 Q := by
  refine CT.of (by decide) (Nat.le_of_ble_eq_true rfl) ?_
  show SJ _ _ _ _ [some (.ref 0), some (.int (ii a)), some (.int (ii b)), none] [] _ _ _ _
  refine j_iload_n d_Mod_mateOf_0 rfl ?_
  refine z_iconst d_Mod_mateOf_1 ?_
  refine z_iadd d_Mod_mateOf_2 ?_
  refine j_istore_n d_Mod_mateOf_3 (by decide) ?_
  show SJ _ _ _ _ [_, _, _, _] _ _ _ _ _
  exact lp_mateOf hk hT a0 a1 b1 hQ _ (a + 1) rfl (by omega) (by omega) rfl
theorem lp_laysCut {g : Bool} {d : Nat} {Q : List xM → Option Value → Prop} {i0 i6 i8 i9 i10 i13 i14 i18 i19 i20 i21 i22 i23 i24 i25 i27 i28 i33 i42 i43 i44 i45 i46 i47 i48 i51 i52 : Int} {x1 x2 x3 x4 x5 x7 x11 x12 x15 x16 x17 x26 x29 x30 x31 x32 x34 x35 x36 x38 x39 x40 x41 x49 x50 : Int → Int} (hk : KOK x2) (hT : ∀ p q, 0 ≤ p → p ≤ q → q ≤ x2 0 → x34 (21 * p + q) = ST x2 p q) {b : Int} (b0 : 0 ≤ b) (b1 : b ≤ x2 0) {k : Nat} (hrec : ∀ (a b : Int) (z : Int → Int) (Q : List xM → Option Value → Prop), b - a ≤ k → 0 ≤ a → b ≤ x2 0 → 0 ≤ b → a ≤ x2 0 → Q (MM i0 i6 i8 i9 i10 i13 i14 i18 i19 i20 i21 i22 i23 i24 i25 i27 i28 i33 i42 i43 i44 i45 i46 i47 i48 i51 i52 x1 x2 x3 x4 x5 x7 x11 x12 x15 x16 x17 x26 x29 x30 x31 x32 x34 x35 x36 (lc x2 a b z) x38 x39 x40 x41 x49 x50) none → CT g m_Mod_laysCut (d + k + 5) [.ref 0, .int (ii a), .int (ii b)] (MM i0 i6 i8 i9 i10 i13 i14 i18 i19 i20 i21 i22 i23 i24 i25 i27 i28 i33 i42 i43 i44 i45 i46 i47 i48 i51 i52 x1 x2 x3 x4 x5 x7 x11 x12 x15 x16 x17 x26 x29 x30 x31 x32 x34 x35 x36 z x38 x39 x40 x41 x49 x50) 0 0 Q) {R : Int → Int} (hQ : Q (MM i0 i6 i8 i9 i10 i13 i14 i18 i19 i20 i21 i22 i23 i24 i25 i27 i28 i33 i42 i43 i44 i45 i46 i47 i48 i51 i52 x1 x2 x3 x4 x5 x7 x11 x12 x15 x16 x17 x26 x29 x30 x31 x32 x34 x35 x36 R x38 x39 x40 x41 x49 x50) none) : ∀ (nn : Nat) (p : Int) (z : Int → Int), (b - p).toNat = nn → 0 ≤ p → p ≤ x2 0 → b - p ≤ k + 1 → lc x2 p b z = R → SJ g m_Mod_laysCut (d + k + 6) 2 [some (.ref 0), none, some (.int (ii b)), some (.int (ii p)), none] [] (MM i0 i6 i8 i9 i10 i13 i14 i18 i19 i20 i21 i22 i23 i24 i25 i27 i28 i33 i42 i43 i44 i45 i46 i47 i48 i51 i52 x1 x2 x3 x4 x5 x7 x11 x12 x15 x16 x17 x26 x29 x30 x31 x32 x34 x35 x36 z x38 x39 x40 x41 x49 x50) 0 0 Q := by
  intro nn
  induction nn using Nat.strongRecOn with
  | ind nn ih =>
  intro p z hn p0 p1 pk hR
  obtain ⟨⟨⟨hn0, hn1⟩, hs, hpg, hdp, hmo, hco, hfo⟩, hC, hz, hLw⟩ := id hk
  have f0 := hfo.1
  have f1 : x2 25 ≤ 5 := by omega
  clear hLw
  refine j_iload_n d_Mod_laysCut_2 rfl ?_
  refine j_iload_n d_Mod_laysCut_3 rfl ?_
  refine z_icmp_ge (t := 75) d_Mod_laysCut_4 (by decide) (by first | omega | exact hw _ | exact hx _ _ | assumption) (by first | omega | exact hw _ | exact hx _ _ | assumption) (fun h4 => ?_) (fun h4 => ?_)
  · rw [lc_0 (by omega)] at hR
    subst hR
    exact j_return rfl d_Mod_laysCut_75 hQ
  · have hsp := hs p (by omega) (by omega)
    have hm := mtS_R (K := x2) (a := p) (b := b)
    refine j_aload_n d_Mod_laysCut_7 rfl ?_
    refine j_iload_n d_Mod_laysCut_8 rfl ?_
    refine j_iload_n d_Mod_laysCut_9 rfl ?_
    refine v_call2 d_Mod_laysCut_10 c_Mod_405 rfl ⟨_, rfl, rfl⟩ (Nat.le_of_ble_eq_true rfl) (t_Mod_mateOf hk hT (by omega) (by omega) (by omega) ?_)
    refine j_istore d_Mod_laysCut_13 (by decide) ?_
    show SJ _ _ _ _ [_, _, _, _, _] _ _ _ _ _
    refine j_aload_n d_Mod_laysCut_15 rfl ?_
    refine mg_isCut f_Mod_91 d_Mod_laysCut_16 ?_
    refine j_iload_n d_Mod_laysCut_19 rfl ?_
    refine j_aload_n d_Mod_laysCut_20 rfl ?_
    refine j_iload_n d_Mod_laysCut_21 rfl ?_
    refine v_call1 d_Mod_laysCut_22 c_Mod_324 rfl ⟨_, rfl, rfl⟩ (Nat.le_of_ble_eq_true rfl) (t_Mod_signAt (by omega) (by omega) ?_)
    refine s_call1 d_Mod_laysCut_25 c_Mod_22 (Nat.le_of_ble_eq_true rfl) (t_Mod_isName (by first | omega | exact hw _ | exact hx _ _ | assumption) (fun h25 => ?_) (fun h25 => ?_))
    · refine z_if_ne (t := 41) d_Mod_laysCut_28 (by decide) (by first | omega | exact hw _ | exact hx _ _ | assumption) (fun _ => ?_) (fun h => absurd h (by decide))
      refine z_iconst d_Mod_laysCut_41 ?_
      refine ms_isCut d_Mod_laysCut_42 (by omega) (by omega) (by first | exact Or.inl rfl | exact Or.inr rfl | assumption | omega) ?_
      refine j_iload d_Mod_laysCut_43 rfl ?_
      refine z_iconst d_Mod_laysCut_45 ?_
      refine z_icmp_eq (t := 69) d_Mod_laysCut_46 (by decide) (by first | omega | exact hw _ | exact hx _ _ | assumption) (by first | omega | exact hw _ | exact hx _ _ | assumption) (fun h46 => ?_) (fun h46 => ?_)
      · refine z_iinc d_Mod_laysCut_69 rfl (by decide) ?_
        show SJ _ _ _ _ [_, _, _, _, _] _ _ _ _ _
        refine j_goto (t := 2) d_Mod_laysCut_72 (by decide) ?_
        refine SJ.mask [true, true, true, true, false] ?_
        show SJ _ _ _ _ [_, none, _, _, none] _ _ _ _ _
        first
        | (exfalso; omega)
        | (rw [lc_1 (by omega) (by omega), if_pos (by omega)] at hR
           exact ih _ (by omega) _ _ rfl (by omega) (by omega) (by omega) hR)
        | (rw [lc_1 (by omega) (by omega), if_neg (by omega)] at hR
           exact ih _ (by omega) _ _ rfl (by omega) (by omega) (by omega) hR)
        | (rw [lc_2 (by omega) (by omega)] at hR
           exact ih _ (by omega) _ _ rfl (by omega) (by omega) (by omega) hR)
      · refine j_aload_n d_Mod_laysCut_49 rfl ?_
        refine mg_isCut f_Mod_91 d_Mod_laysCut_50 ?_
        refine j_iload d_Mod_laysCut_53 rfl ?_
        refine z_iconst d_Mod_laysCut_55 ?_
        refine ms_isCut d_Mod_laysCut_56 (by omega) (by omega) (by first | exact Or.inl rfl | exact Or.inr rfl | assumption | omega) ?_
        refine j_aload_n d_Mod_laysCut_57 rfl ?_
        refine j_iload_n d_Mod_laysCut_58 rfl ?_
        refine z_iconst d_Mod_laysCut_59 ?_
        refine z_iadd d_Mod_laysCut_60 ?_
        refine j_iload d_Mod_laysCut_61 rfl ?_
        refine v_call2 d_Mod_laysCut_63 c_Mod_408 rfl ⟨_, rfl, rfl⟩ (Nat.le_of_ble_eq_true rfl) (hrec _ _ _ _ (by omega) (by omega) (by omega) (by omega) (by omega) ?_)
        refine j_iload d_Mod_laysCut_66 rfl ?_
        refine j_istore_n d_Mod_laysCut_68 (by decide) ?_
        show SJ _ _ _ _ [_, _, _, _, _] _ _ _ _ _
        refine z_iinc d_Mod_laysCut_69 rfl (by decide) ?_
        show SJ _ _ _ _ [_, _, _, _, _] _ _ _ _ _
        refine j_goto (t := 2) d_Mod_laysCut_72 (by decide) ?_
        refine SJ.mask [true, true, true, true, false] ?_
        show SJ _ _ _ _ [_, none, _, _, none] _ _ _ _ _
        first
        | (exfalso; omega)
        | (rw [lc_1 (by omega) (by omega), if_pos (by omega)] at hR
           exact ih _ (by omega) _ _ rfl (by omega) (by omega) (by omega) hR)
        | (rw [lc_1 (by omega) (by omega), if_neg (by omega)] at hR
           exact ih _ (by omega) _ _ rfl (by omega) (by omega) (by omega) hR)
        | (rw [lc_2 (by omega) (by omega)] at hR
           exact ih _ (by omega) _ _ rfl (by omega) (by omega) (by omega) hR)
    · refine z_if_ne (t := 41) d_Mod_laysCut_28 (by decide) (by first | omega | exact hw _ | exact hx _ _ | assumption) (fun h => absurd h (by decide)) (fun _ => ?_)
      refine j_iload d_Mod_laysCut_31 rfl ?_
      refine z_iconst d_Mod_laysCut_33 ?_
      refine z_icmp_ne (t := 41) d_Mod_laysCut_34 (by decide) (by first | omega | exact hw _ | exact hx _ _ | assumption) (by first | omega | exact hw _ | exact hx _ _ | assumption) (fun h34 => ?_) (fun h34 => ?_)
      · refine z_iconst d_Mod_laysCut_41 ?_
        refine ms_isCut d_Mod_laysCut_42 (by omega) (by omega) (by first | exact Or.inl rfl | exact Or.inr rfl | assumption | omega) ?_
        refine j_iload d_Mod_laysCut_43 rfl ?_
        refine z_iconst d_Mod_laysCut_45 ?_
        refine z_icmp_eq (t := 69) d_Mod_laysCut_46 (by decide) (by first | omega | exact hw _ | exact hx _ _ | assumption) (by first | omega | exact hw _ | exact hx _ _ | assumption) (fun hq => by exfalso; omega) (fun _ => ?_)
        refine j_aload_n d_Mod_laysCut_49 rfl ?_
        refine mg_isCut f_Mod_91 d_Mod_laysCut_50 ?_
        refine j_iload d_Mod_laysCut_53 rfl ?_
        refine z_iconst d_Mod_laysCut_55 ?_
        refine ms_isCut d_Mod_laysCut_56 (by omega) (by omega) (by first | exact Or.inl rfl | exact Or.inr rfl | assumption | omega) ?_
        refine j_aload_n d_Mod_laysCut_57 rfl ?_
        refine j_iload_n d_Mod_laysCut_58 rfl ?_
        refine z_iconst d_Mod_laysCut_59 ?_
        refine z_iadd d_Mod_laysCut_60 ?_
        refine j_iload d_Mod_laysCut_61 rfl ?_
        refine v_call2 d_Mod_laysCut_63 c_Mod_408 rfl ⟨_, rfl, rfl⟩ (Nat.le_of_ble_eq_true rfl) (hrec _ _ _ _ (by omega) (by omega) (by omega) (by omega) (by omega) ?_)
        refine j_iload d_Mod_laysCut_66 rfl ?_
        refine j_istore_n d_Mod_laysCut_68 (by decide) ?_
        show SJ _ _ _ _ [_, _, _, _, _] _ _ _ _ _
        refine z_iinc d_Mod_laysCut_69 rfl (by decide) ?_
        show SJ _ _ _ _ [_, _, _, _, _] _ _ _ _ _
        refine j_goto (t := 2) d_Mod_laysCut_72 (by decide) ?_
        refine SJ.mask [true, true, true, true, false] ?_
        show SJ _ _ _ _ [_, none, _, _, none] _ _ _ _ _
        first
        | (exfalso; omega)
        | (rw [lc_1 (by omega) (by omega), if_pos (by omega)] at hR
           exact ih _ (by omega) _ _ rfl (by omega) (by omega) (by omega) hR)
        | (rw [lc_1 (by omega) (by omega), if_neg (by omega)] at hR
           exact ih _ (by omega) _ _ rfl (by omega) (by omega) (by omega) hR)
        | (rw [lc_2 (by omega) (by omega)] at hR
           exact ih _ (by omega) _ _ rfl (by omega) (by omega) (by omega) hR)
      · refine z_iconst d_Mod_laysCut_37 ?_
        refine j_goto (t := 42) d_Mod_laysCut_38 (by decide) ?_
        refine ms_isCut d_Mod_laysCut_42 (by omega) (by omega) (by first | exact Or.inl rfl | exact Or.inr rfl | assumption | omega) ?_
        refine j_iload d_Mod_laysCut_43 rfl ?_
        refine z_iconst d_Mod_laysCut_45 ?_
        refine z_icmp_eq (t := 69) d_Mod_laysCut_46 (by decide) (by first | omega | exact hw _ | exact hx _ _ | assumption) (by first | omega | exact hw _ | exact hx _ _ | assumption) (fun _ => ?_) (fun hq => by exfalso; omega)
        refine z_iinc d_Mod_laysCut_69 rfl (by decide) ?_
        show SJ _ _ _ _ [_, _, _, _, _] _ _ _ _ _
        refine j_goto (t := 2) d_Mod_laysCut_72 (by decide) ?_
        refine SJ.mask [true, true, true, true, false] ?_
        show SJ _ _ _ _ [_, none, _, _, none] _ _ _ _ _
        first
        | (exfalso; omega)
        | (rw [lc_1 (by omega) (by omega), if_pos (by omega)] at hR
           exact ih _ (by omega) _ _ rfl (by omega) (by omega) (by omega) hR)
        | (rw [lc_1 (by omega) (by omega), if_neg (by omega)] at hR
           exact ih _ (by omega) _ _ rfl (by omega) (by omega) (by omega) hR)
        | (rw [lc_2 (by omega) (by omega)] at hR
           exact ih _ (by omega) _ _ rfl (by omega) (by omega) (by omega) hR)
theorem t_Mod_laysCut {g : Bool} {d : Nat} {i0 i6 i8 i9 i10 i13 i14 i18 i19 i20 i21 i22 i23 i24 i25 i27 i28 i33 i42 i43 i44 i45 i46 i47 i48 i51 i52 : Int} {x1 x2 x3 x4 x5 x7 x11 x12 x15 x16 x17 x26 x29 x30 x31 x32 x34 x35 x36 x38 x39 x40 x41 x49 x50 : Int → Int} (hk : KOK x2) (hT : ∀ p q, 0 ≤ p → p ≤ q → q ≤ x2 0 → x34 (21 * p + q) = ST x2 p q)  : ∀ (k : Nat) (a b : Int) (z : Int → Int) (Q : List xM → Option Value → Prop), b - a ≤ k → 0 ≤ a → b ≤ x2 0 → 0 ≤ b → a ≤ x2 0 → Q (MM i0 i6 i8 i9 i10 i13 i14 i18 i19 i20 i21 i22 i23 i24 i25 i27 i28 i33 i42 i43 i44 i45 i46 i47 i48 i51 i52 x1 x2 x3 x4 x5 x7 x11 x12 x15 x16 x17 x26 x29 x30 x31 x32 x34 x35 x36 (lc x2 a b z) x38 x39 x40 x41 x49 x50) none → CT g m_Mod_laysCut (d + k + 5) [.ref 0, .int (ii a), .int (ii b)] (MM i0 i6 i8 i9 i10 i13 i14 i18 i19 i20 i21 i22 i23 i24 i25 i27 i28 i33 i42 i43 i44 i45 i46 i47 i48 i51 i52 x1 x2 x3 x4 x5 x7 x11 x12 x15 x16 x17 x26 x29 x30 x31 x32 x34 x35 x36 z x38 x39 x40 x41 x49 x50) 0 0 Q
  | 0, a, b, z, Q, hka, a0, b1, b0, hab, hQ => by
    have hn1 := hk.1.1.2
    refine CT.of (by decide) (Nat.le_of_ble_eq_true rfl) ?_
    show SJ _ _ _ _ [some (.ref 0), some (.int (ii (a))), some (.int (ii (b))), none, none] [] _ _ _ _
    refine j_iload_n d_Mod_laysCut_0 rfl ?_
    refine j_istore_n d_Mod_laysCut_1 (by decide) ?_
    show SJ _ _ _ _ [_, _, _, _, _] _ _ _ _ _
    refine SJ.mask [true, false, true, true, false] ?_
    show SJ _ _ _ _ [_, none, _, _, none] _ _ _ _ _
    rw [lc_0 (by omega)] at hQ
    refine j_iload_n d_Mod_laysCut_2 rfl ?_
    refine j_iload_n d_Mod_laysCut_3 rfl ?_
    refine z_icmp_ge (t := 75) d_Mod_laysCut_4 (by decide) (by omega) (by omega) (fun h4 => ?_) (fun h4 => by exfalso; omega)
    exact j_return rfl d_Mod_laysCut_75 hQ
  | k + 1, a, b, z, Q, hka, a0, b1, b0, hab, hQ => by
    have hn1 := hk.1.1.2
    refine CT.of (by decide) (Nat.le_of_ble_eq_true rfl) ?_
    show SJ _ _ _ _ [some (.ref 0), some (.int (ii (a))), some (.int (ii (b))), none, none] [] _ _ _ _
    refine j_iload_n d_Mod_laysCut_0 rfl ?_
    refine j_istore_n d_Mod_laysCut_1 (by decide) ?_
    show SJ _ _ _ _ [_, _, _, _, _] _ _ _ _ _
    refine SJ.mask [true, false, true, true, false] ?_
    show SJ _ _ _ _ [_, none, _, _, none] _ _ _ _ _
    exact lp_laysCut (d := d) (k := k) hk hT b0 b1 (fun a b z Q h1 h2 h3 h4 h6 h5 => t_Mod_laysCut hk hT k a b z Q h1 h2 h3 h4 h6 h5) hQ _ a z rfl a0 hab (by omega) rfl
theorem t_Mod_strike {g : Bool} {d : Nat} {Q : List xM → Option Value → Prop} {i0 i6 i8 i9 i10 i13 i14 i18 i19 i20 i21 i22 i23 i24 i25 i27 i28 i33 i42 i43 i44 i45 i46 i47 i48 i51 i52 : Int} {x1 x2 x3 x4 x5 x7 x11 x12 x15 x16 x17 x26 x29 x30 x31 x32 x34 x35 x36 x37 x38 x39 x40 x41 x49 x50 : Int → Int} (hk : KOK x2) {w : Int} (r1 : R32 w) (hnx : ¬ (0 ≤ w ∧ w ≤ x2 0) → Q (MM i0 i6 i8 i9 i10 i13 i14 i18 i19 i20 i21 i22 i23 i24 i25 i27 i28 i33 i42 i43 i44 i45 i46 i47 i48 i51 i52 x1 x2 x3 x4 x5 x7 x11 x12 x15 x16 x17 x26 x29 x30 x31 x32 x34 x35 x36 x37 x38 x39 x40 x41 x49 x50) (some (.int (ii (-1))))) (hQ : 0 ≤ w ∧ w ≤ x2 0 → ∀ z4 z6 z7, ∀ j22 j23 j24 j25 y26 y29 y30, Q (MM i0 i6 i8 i9 i10 i13 i14 i18 i19 i20 i21 j22 j23 j24 j25 i27 i28 i33 i42 i43 i44 i45 i46 i47 i48 i51 i52 x1 x2 x3 x4 x5 x7 x11 x12 x15 x16 x17 y26 y29 y30 x31 x32 z4 x35 z6 z7 x38 x39 x40 x41 x49 x50) (some (.int (ii (stR x2 w x37))))) : CT g m_Mod_strike (d + 90) [.ref 0, .int (ii w)] (MM i0 i6 i8 i9 i10 i13 i14 i18 i19 i20 i21 i22 i23 i24 i25 i27 i28 i33 i42 i43 i44 i45 i46 i47 i48 i51 i52 x1 x2 x3 x4 x5 x7 x11 x12 x15 x16 x17 x26 x29 x30 x31 x32 x34 x35 x36 x37 x38 x39 x40 x41 x49 x50) 0 0 Q := by
  refine CT.of (by decide) (Nat.le_of_ble_eq_true rfl) ?_
  show SJ _ _ _ _ [some (.ref 0), some (.int (ii w))] [] _ _ _ _
  obtain ⟨⟨⟨hn0, hn1⟩, hs, hpg, hdp, hmo, hco, hfo⟩, hC, hz, hLw⟩ := id hk
  have f0 := hfo.1
  have f1 : x2 25 ≤ 5 := by omega
  clear hLw
  refine j_iload_n d_Mod_strike_0 rfl ?_
  refine z_iconst d_Mod_strike_1 ?_
  refine j_aload_n d_Mod_strike_2 rfl ?_
  refine v_call0 d_Mod_strike_3 c_Mod_125 rfl ⟨_, rfl, rfl⟩ (Nat.le_of_ble_eq_true rfl) (t_Mod_length  ?_)
  refine s_call3 d_Mod_strike_6 c_Mod_18 (Nat.le_of_ble_eq_true rfl) (t_Mod_lies (by first | omega | exact hw _ | exact hx _ _ | assumption) (by first | omega | exact hw _ | exact hx _ _ | assumption) (by first | omega | exact hw _ | exact hx _ _ | assumption) (fun h6 => ?_) (fun h6 => ?_))
  · refine z_if_ne (t := 14) d_Mod_strike_9 (by decide) (by first | omega | exact hw _ | exact hx _ _ | assumption) (fun _ => ?_) (fun h => absurd h (by decide))
    refine j_aload_n d_Mod_strike_14 rfl ?_
    refine v_call0 d_Mod_strike_15 c_Mod_411 rfl ⟨_, rfl, rfl⟩ (Nat.le_of_ble_eq_true rfl) (t_Mod_laysStruck hk (fun z4 z6 hz4 j22 j23 j24 j25 y26 y29 y30 => ?_))
    refine j_iload_n d_Mod_strike_18 rfl ?_
    refine z_if_ne (t := 32) d_Mod_strike_19 (by decide) (by first | omega | exact hw _ | exact hx _ _ | assumption) (fun h19 => ?_) (fun h19 => ?_)
    · refine j_aload_n d_Mod_strike_32 rfl ?_
      refine z_iconst d_Mod_strike_33 ?_
      refine j_aload_n d_Mod_strike_34 rfl ?_
      refine v_call0 d_Mod_strike_35 c_Mod_125 rfl ⟨_, rfl, rfl⟩ (Nat.le_of_ble_eq_true rfl) (t_Mod_length  ?_)
      refine v_call2 d_Mod_strike_38 c_Mod_408 rfl ⟨_, rfl, rfl⟩ (Nat.le_of_ble_eq_true rfl) (t_Mod_laysCut (d := d + 64) hk hz4 20 0 (x2 0) _ _ (by omega) (by omega) (by omega) (by omega) (by omega) ?_)
      refine j_aload_n d_Mod_strike_41 rfl ?_
      refine mg_isCut f_Mod_91 d_Mod_strike_42 ?_
      refine j_iload_n d_Mod_strike_45 rfl ?_
      refine z_iconst d_Mod_strike_46 ?_
      refine z_isub d_Mod_strike_47 ?_
      have hcr := lc_R (K := x2) (a := 0) (b := x2 0) (x := x37) (j := w - 1) (by omega) (by omega)
      refine ml_isCut d_Mod_strike_48 (by omega) (by omega) ?_
      refine z_if_eq (t := 56) d_Mod_strike_49 (by decide) (by first | omega | exact hw _ | exact hx _ _ | assumption) (fun h49 => ?_) (fun h49 => ?_)
      · refine z_iconst d_Mod_strike_56 ?_
        exact z_iret rfl d_Mod_strike_57 (by unfold stR; rw [if_neg (by omega), if_neg (by omega)]; omega) (hQ (by omega) _ _ _ _ _ _ _ _ _ _)
      · refine z_iconst d_Mod_strike_52 ?_
        refine j_goto (t := 57) d_Mod_strike_53 (by decide) ?_
        exact z_iret rfl d_Mod_strike_57 (by unfold stR; rw [if_neg (by omega), if_neg (by omega)]; omega) (hQ (by omega) _ _ _ _ _ _ _ _ _ _)
    · refine j_aload_n d_Mod_strike_22 rfl ?_
      refine z_iconst d_Mod_strike_23 ?_
      refine j_aload_n d_Mod_strike_24 rfl ?_
      refine v_call0 d_Mod_strike_25 c_Mod_125 rfl ⟨_, rfl, rfl⟩ (Nat.le_of_ble_eq_true rfl) (t_Mod_length  ?_)
      refine v_call2 d_Mod_strike_28 c_Mod_384 rfl ⟨_, rfl, rfl⟩ (Nat.le_of_ble_eq_true rfl) (t_Mod_leastOf (by omega) (by omega) (by omega) (by omega) ?_)
      exact z_iret rfl d_Mod_strike_31 (by unfold stR; rw [if_neg (by omega), if_pos (by omega)]; exact hz4 _ _ (by omega) (by omega) (by omega)) (hQ (by omega) _ _ _ _ _ _ _ _ _ _)
  · refine z_if_ne (t := 14) d_Mod_strike_9 (by decide) (by first | omega | exact hw _ | exact hx _ _ | assumption) (fun h => absurd h (by decide)) (fun _ => ?_)
    refine z_iconst d_Mod_strike_12 ?_
    exact z_iret rfl d_Mod_strike_13 rfl (hnx (by omega))
theorem lp_laysGame2 {g : Bool} {d : Nat} {Q : List xM → Option Value → Prop} {i0 i6 i8 i9 i10 i13 i14 i18 i19 i20 i21 i22 i23 i24 i25 i27 i28 i33 i42 i43 i44 i45 i46 i47 i48 i51 i52 : Int} {x1 x2 x3 x4 x5 x7 x11 x12 x15 x16 x17 x26 x29 x30 x31 x32 x35 x36 x37 x38 x39 x40 x41 x49 x50 : Int → Int} (hk : KOK x2) (hw6 : ∀ p, 0 ≤ p → p < x2 0 → x36 p = wk x2 p) {a : Int} (a0 : 0 ≤ a) (a1 : a ≤ x2 0) (hkk : ∀ z, (∀ p q, a - 1 < p → p ≤ q → q ≤ x2 0 → z (21 * p + q) = GM x2 p q) → SJ g m_Mod_laysGame (d + 2) 5 [some (.ref 0), some (.int (ii (a - 1))), none] [] (MM i0 i6 i8 i9 i10 i13 i14 i18 i19 i20 i21 i22 i23 i24 i25 i27 i28 i33 i42 i43 i44 i45 i46 i47 i48 i51 i52 x1 x2 x3 x4 x5 x7 x11 x12 x15 x16 x17 x26 x29 x30 x31 x32 z x35 x36 x37 x38 x39 x40 x41 x49 x50) 0 0 Q) : ∀ (nn : Nat) (b : Int) (z : Int → Int), (x2 0 + 1 - b).toNat = nn → a + 1 ≤ b → b ≤ x2 0 + 1 → (∀ p q, a < p → p ≤ q → q ≤ x2 0 → z (21 * p + q) = GM x2 p q) → (∀ q, a ≤ q → q < b → z (21 * a + q) = GM x2 a q) → SJ g m_Mod_laysGame (d + 2) 25 [some (.ref 0), some (.int (ii a)), some (.int (ii b))] [] (MM i0 i6 i8 i9 i10 i13 i14 i18 i19 i20 i21 i22 i23 i24 i25 i27 i28 i33 i42 i43 i44 i45 i46 i47 i48 i51 i52 x1 x2 x3 x4 x5 x7 x11 x12 x15 x16 x17 x26 x29 x30 x31 x32 z x35 x36 x37 x38 x39 x40 x41 x49 x50) 0 0 Q := by
  intro nn
  induction nn using Nat.strongRecOn with
  | ind nn ih =>
  intro b z hn b0 b1 za zb
  obtain ⟨⟨⟨hn0, hn1⟩, hs, hpg, hdp, hmo, hco, hfo⟩, hC, hz, hLw⟩ := id hk
  have f0 := hfo.1
  have f1 : x2 25 ≤ 5 := by omega
  clear hLw
  refine j_iload_n d_Mod_laysGame_25 rfl ?_
  refine j_aload_n d_Mod_laysGame_26 rfl ?_
  refine v_call0 d_Mod_laysGame_27 c_Mod_125 rfl ⟨_, rfl, rfl⟩ (Nat.le_of_ble_eq_true rfl) (t_Mod_length  ?_)
  refine z_icmp_gt (t := 65) d_Mod_laysGame_30 (by decide) (by first | omega | exact hw _ | exact hx _ _ | assumption) (by first | omega | exact hw _ | exact hx _ _ | assumption) (fun h30 => ?_) (fun h30 => ?_)
  · refine z_iinc d_Mod_laysGame_65 rfl (by decide) ?_
    show SJ _ _ _ _ [_, _, _] _ _ _ _ _
    refine j_goto (t := 5) d_Mod_laysGame_68 (by decide) ?_
    refine SJ.mask [true, true, false] ?_
    show SJ _ _ _ _ [_, _, none] _ _ _ _ _
    rw [show a + -1 = a - 1 by omega]
    refine hkk z (fun p q e1 e2 e3 => ?_)
    by_cases e : p = a
    · subst e
      exact zb q (by omega) (by omega)
    · exact za p q (by omega) e2 e3
  · have hM := GM_R2 (a := a + 1) (b := b) hk (by omega) (by omega) (by omega)
    have hM2 := GM_R2 (a := a) (b := b - 1) hk (by omega) (by omega) (by omega)
    have w1 := wk_R (p := a) hk (by omega) (by omega)
    have w2 := wk_R (p := b - 1) hk (by omega) (by omega)
    refine j_aload_n d_Mod_laysGame_33 rfl ?_
    refine mg_least f_Mod_82 d_Mod_laysGame_34 ?_
    refine z_bipush d_Mod_laysGame_37 (by decide) ?_
    refine j_iload_n d_Mod_laysGame_39 rfl ?_
    refine z_imul d_Mod_laysGame_40 ?_
    refine j_iload_n d_Mod_laysGame_41 rfl ?_
    refine z_iadd d_Mod_laysGame_42 ?_
    refine j_aload_n d_Mod_laysGame_43 rfl ?_
    refine j_iload_n d_Mod_laysGame_44 rfl ?_
    refine j_iload_n d_Mod_laysGame_45 rfl ?_
    refine v_call2 d_Mod_laysGame_46 c_Mod_428 rfl ⟨_, rfl, rfl⟩ (Nat.le_of_ble_eq_true rfl) (t_Mod_byFirst (by omega) (by omega) (by omega) ?_)
    rw [za (a + 1) b (by omega) (by omega) (by omega), hw6 a (by omega) (by omega)]
    refine j_aload_n d_Mod_laysGame_49 rfl ?_
    refine j_iload_n d_Mod_laysGame_50 rfl ?_
    refine j_iload_n d_Mod_laysGame_51 rfl ?_
    refine v_call2 d_Mod_laysGame_52 c_Mod_431 rfl ⟨_, rfl, rfl⟩ (Nat.le_of_ble_eq_true rfl) (t_Mod_byLast (by omega) (by omega) (by omega) ?_)
    rw [zb (b - 1) (by omega) (by omega), hw6 (b - 1) (by omega) (by omega)]
    refine s_call2 d_Mod_laysGame_55 c_Mod_434 (Nat.le_of_ble_eq_true rfl) (t_Mod_greater (by first | omega | exact hw _ | exact hx _ _ | assumption) (by first | omega | exact hw _ | exact hx _ _ | assumption) ?_)
    refine ms_least d_Mod_laysGame_58 (by omega) (by omega) ?_
    refine z_iinc d_Mod_laysGame_59 rfl (by decide) ?_
    show SJ _ _ _ _ [_, _, _] _ _ _ _ _
    refine j_goto (t := 25) d_Mod_laysGame_62 (by decide) ?_
    exact ih _ (by omega) _ _ rfl (by omega) (by omega) (fun p q e1 e2 e3 => by rw [up_ne (by omega)]; exact za p q e1 e2 e3) (fun q e1 e2 => by by_cases e : q = b; (subst e; rw [up_eq]; exact (GM_eq (by omega)).symm); (rw [up_ne (by omega)]; exact zb q e1 (by omega)))
theorem lp_laysGame {g : Bool} {d : Nat} {Q : List xM → Option Value → Prop} {i0 i6 i8 i9 i10 i13 i14 i18 i19 i20 i21 i22 i23 i24 i25 i27 i28 i33 i42 i43 i44 i45 i46 i47 i48 i51 i52 : Int} {x1 x2 x3 x4 x5 x7 x11 x12 x15 x16 x17 x26 x29 x30 x31 x32 x35 x36 x37 x38 x39 x40 x41 x49 x50 : Int → Int} (hk : KOK x2) (hw6 : ∀ p, 0 ≤ p → p < x2 0 → x36 p = wk x2 p) (hQ : ∀ z, (∀ p q, 0 ≤ p → p ≤ q → q ≤ x2 0 → z (21 * p + q) = GM x2 p q) → Q (MM i0 i6 i8 i9 i10 i13 i14 i18 i19 i20 i21 i22 i23 i24 i25 i27 i28 i33 i42 i43 i44 i45 i46 i47 i48 i51 i52 x1 x2 x3 x4 x5 x7 x11 x12 x15 x16 x17 x26 x29 x30 x31 x32 z x35 x36 x37 x38 x39 x40 x41 x49 x50) none) : ∀ (nn : Nat) (a : Int) (z : Int → Int), (a + 1).toNat = nn → -1 ≤ a → a ≤ x2 0 → (∀ p q, a < p → p ≤ q → q ≤ x2 0 → z (21 * p + q) = GM x2 p q) → SJ g m_Mod_laysGame (d + 2) 5 [some (.ref 0), some (.int (ii a)), none] [] (MM i0 i6 i8 i9 i10 i13 i14 i18 i19 i20 i21 i22 i23 i24 i25 i27 i28 i33 i42 i43 i44 i45 i46 i47 i48 i51 i52 x1 x2 x3 x4 x5 x7 x11 x12 x15 x16 x17 x26 x29 x30 x31 x32 z x35 x36 x37 x38 x39 x40 x41 x49 x50) 0 0 Q := by
  intro nn
  induction nn using Nat.strongRecOn with
  | ind nn ih =>
  intro a z hn a0 a1 za
  obtain ⟨⟨⟨hn0, hn1⟩, hs, hpg, hdp, hmo, hco, hfo⟩, hC, hz, hLw⟩ := id hk
  have f0 := hfo.1
  have f1 : x2 25 ≤ 5 := by omega
  clear hLw
  refine j_iload_n d_Mod_laysGame_5 rfl ?_
  refine z_if_lt (t := 71) d_Mod_laysGame_6 (by decide) (by first | omega | exact hw _ | exact hx _ _ | assumption) (fun h6 => ?_) (fun h6 => ?_)
  · exact j_return rfl d_Mod_laysGame_71 (hQ z (fun p q e1 e2 e3 => za p q (by omega) e2 e3))
  · refine j_aload_n d_Mod_laysGame_9 rfl ?_
    refine mg_least f_Mod_82 d_Mod_laysGame_10 ?_
    refine z_bipush d_Mod_laysGame_13 (by decide) ?_
    refine j_iload_n d_Mod_laysGame_15 rfl ?_
    refine z_imul d_Mod_laysGame_16 ?_
    refine j_iload_n d_Mod_laysGame_17 rfl ?_
    refine z_iadd d_Mod_laysGame_18 ?_
    refine z_iconst d_Mod_laysGame_19 ?_
    refine ms_least d_Mod_laysGame_20 (by omega) (by omega) ?_
    refine j_iload_n d_Mod_laysGame_21 rfl ?_
    refine z_iconst d_Mod_laysGame_22 ?_
    refine z_iadd d_Mod_laysGame_23 ?_
    refine j_istore_n d_Mod_laysGame_24 (by decide) ?_
    show SJ _ _ _ _ [_, _, _] _ _ _ _ _
    refine lp_laysGame2 hk hw6 (by omega) (by omega) (fun z2 h2 => ?_) _ (a + 1) _ rfl (by omega) (by omega) (fun p q e1 e2 e3 => by rw [up_ne (by omega)]; exact za p q e1 e2 e3) (fun q e1 e2 => by rw [show q = a by omega, up_eq, GM_self])
    exact ih _ (by omega) _ _ rfl (by omega) (by omega) h2
theorem t_Mod_laysGame {g : Bool} {d : Nat} {Q : List xM → Option Value → Prop} {i0 i6 i8 i9 i10 i13 i14 i18 i19 i20 i21 i22 i23 i24 i25 i27 i28 i33 i42 i43 i44 i45 i46 i47 i48 i51 i52 : Int} {x1 x2 x3 x4 x5 x7 x11 x12 x15 x16 x17 x26 x29 x30 x31 x32 x34 x35 x36 x37 x38 x39 x40 x41 x49 x50 : Int → Int} (hk : KOK x2) (hw6 : ∀ p, 0 ≤ p → p < x2 0 → x36 p = wk x2 p) (hQ : ∀ z, (∀ p q, 0 ≤ p → p ≤ q → q ≤ x2 0 → z (21 * p + q) = GM x2 p q) → Q (MM i0 i6 i8 i9 i10 i13 i14 i18 i19 i20 i21 i22 i23 i24 i25 i27 i28 i33 i42 i43 i44 i45 i46 i47 i48 i51 i52 x1 x2 x3 x4 x5 x7 x11 x12 x15 x16 x17 x26 x29 x30 x31 x32 z x35 x36 x37 x38 x39 x40 x41 x49 x50) none) : CT g m_Mod_laysGame (d + 2) [.ref 0] (MM i0 i6 i8 i9 i10 i13 i14 i18 i19 i20 i21 i22 i23 i24 i25 i27 i28 i33 i42 i43 i44 i45 i46 i47 i48 i51 i52 x1 x2 x3 x4 x5 x7 x11 x12 x15 x16 x17 x26 x29 x30 x31 x32 x34 x35 x36 x37 x38 x39 x40 x41 x49 x50) 0 0 Q := by
  refine CT.of (by decide) (Nat.le_of_ble_eq_true rfl) ?_
  show SJ _ _ _ _ [some (.ref 0), none, none] [] _ _ _ _
  obtain ⟨⟨⟨hn0, hn1⟩, hs, hpg, hdp, hmo, hco, hfo⟩, hC, hz, hLw⟩ := id hk
  have f0 := hfo.1
  have f1 : x2 25 ≤ 5 := by omega
  clear hLw
  refine j_aload_n d_Mod_laysGame_0 rfl ?_
  refine v_call0 d_Mod_laysGame_1 c_Mod_125 rfl ⟨_, rfl, rfl⟩ (Nat.le_of_ble_eq_true rfl) (t_Mod_length  ?_)
  refine j_istore_n d_Mod_laysGame_4 (by decide) ?_
  show SJ _ _ _ _ [_, _, _] _ _ _ _ _
  exact lp_laysGame hk hw6 hQ _ (x2 0) _ rfl (by omega) (by omega) (fun p q e1 e2 e3 => by omega)
theorem lp_game {g : Bool} {d : Nat} {Q : List xM → Option Value → Prop} {i0 i6 i8 i9 i10 i13 i14 i18 i19 i20 i21 i27 i28 i33 i42 i43 i44 i45 i46 i47 i48 i51 i52 : Int} {x1 x2 x3 x4 x5 x7 x11 x12 x15 x16 x17 x31 x32 x34 x35 x37 x38 x39 x40 x41 x49 x50 : Int → Int} (hk : KOK x2) {w : Int} (w0 : 0 ≤ w ∧ w ≤ 1) (w1 : ¬ (w = 1 ∧ x2 0 = 0)) (hQ : ∀ z4 z6, ∀ j22 j23 j24 j25 y26 y29 y30, Q (MM i0 i6 i8 i9 i10 i13 i14 i18 i19 i20 i21 j22 j23 j24 j25 i27 i28 i33 i42 i43 i44 i45 i46 i47 i48 i51 i52 x1 x2 x3 x4 x5 x7 x11 x12 x15 x16 x17 y26 y29 y30 x31 x32 z4 x35 z6 x37 x38 x39 x40 x41 x49 x50) (some (.int (ii (gmR x2 w)))))  : ∀ (nn : Nat) (p : Int) (y36 : Int → Int) (j22 : Int) (j23 : Int) (j24 : Int) (j25 : Int) (y26 : Int → Int) (y29 : Int → Int) (y30 : Int → Int), (x2 0 - p).toNat = nn → 0 ≤ p → p ≤ x2 0 → (∀ j, 0 ≤ j → j < p → y36 j = wk x2 j) → SJ g m_Mod_game (d + 89) 27 [some (.ref 0), some (.int (ii w)), some (.int (ii p))] [] (MM i0 i6 i8 i9 i10 i13 i14 i18 i19 i20 i21 j22 j23 j24 j25 i27 i28 i33 i42 i43 i44 i45 i46 i47 i48 i51 i52 x1 x2 x3 x4 x5 x7 x11 x12 x15 x16 x17 y26 y29 y30 x31 x32 x34 x35 y36 x37 x38 x39 x40 x41 x49 x50) 0 0 Q := by
  intro nn
  induction nn using Nat.strongRecOn with
  | ind nn ih =>
  intro p y36 j22 j23 j24 j25 y26 y29 y30 hn p0 p1 hy
  obtain ⟨⟨⟨hn0, hn1⟩, hs, hpg, hdp, hmo, hco, hfo⟩, hC, hz, hLw⟩ := id hk
  have f0 := hfo.1
  have f1 : x2 25 ≤ 5 := by omega
  clear hLw
  refine j_iload_n d_Mod_game_27 rfl ?_
  refine j_aload_n d_Mod_game_28 rfl ?_
  refine v_call0 d_Mod_game_29 c_Mod_125 rfl ⟨_, rfl, rfl⟩ (Nat.le_of_ble_eq_true rfl) (t_Mod_length  ?_)
  refine z_icmp_ge (t := 52) d_Mod_game_32 (by decide) (by first | omega | exact hw _ | exact hx _ _ | assumption) (by first | omega | exact hw _ | exact hx _ _ | assumption) (fun h32 => ?_) (fun h32 => ?_)
  · refine j_aload_n d_Mod_game_52 rfl ?_
    refine v_call0 d_Mod_game_53 c_Mod_441 rfl ⟨_, rfl, rfl⟩ (Nat.le_of_ble_eq_true rfl) (t_Mod_laysGame (x36 := y36) hk (fun j e1 e2 => hy j e1 (by omega)) (fun z4 hz4 => ?_))
    refine j_iload_n d_Mod_game_56 rfl ?_
    refine z_if_ne (t := 70) d_Mod_game_57 (by decide) (by first | omega | exact hw _ | exact hx _ _ | assumption) (fun h57 => ?_) (fun h57 => ?_)
    · have hM := GM_R2 (a := 0 + 1) (b := x2 0) hk (by omega) (by omega) (by omega)
      have hM2 := GM_R2 (a := 0) (b := x2 0 - 1) hk (by omega) (by omega) (by omega)
      have w1 := wk_R (p := 0) hk (by omega) (by omega)
      have w2 := wk_R (p := x2 0 - 1) hk (by omega) (by omega)
      refine j_aload_n d_Mod_game_70 rfl ?_
      refine z_iconst d_Mod_game_71 ?_
      refine j_aload_n d_Mod_game_72 rfl ?_
      refine v_call0 d_Mod_game_73 c_Mod_125 rfl ⟨_, rfl, rfl⟩ (Nat.le_of_ble_eq_true rfl) (t_Mod_length  ?_)
      refine v_call2 d_Mod_game_76 c_Mod_428 rfl ⟨_, rfl, rfl⟩ (Nat.le_of_ble_eq_true rfl) (t_Mod_byFirst (by omega) (by omega) (by omega) ?_)
      refine j_aload_n d_Mod_game_79 rfl ?_
      refine z_iconst d_Mod_game_80 ?_
      refine j_aload_n d_Mod_game_81 rfl ?_
      refine v_call0 d_Mod_game_82 c_Mod_125 rfl ⟨_, rfl, rfl⟩ (Nat.le_of_ble_eq_true rfl) (t_Mod_length  ?_)
      refine v_call2 d_Mod_game_85 c_Mod_431 rfl ⟨_, rfl, rfl⟩ (Nat.le_of_ble_eq_true rfl) (t_Mod_byLast (by omega) (by omega) (by omega) ?_)
      rw [hz4 (0 + 1) (x2 0) (by omega) (by omega) (by omega), hz4 0 (x2 0 - 1) (by omega) (by omega) (by omega), hy 0 (by omega) (by omega), hy (x2 0 - 1) (by omega) (by omega)]
      refine z_icmp_lt (t := 95) d_Mod_game_88 (by decide) (by first | omega | exact hw _ | exact hx _ _ | assumption) (by first | omega | exact hw _ | exact hx _ _ | assumption) (fun h88 => ?_) (fun h88 => ?_)
      · refine z_iconst d_Mod_game_95 ?_
        exact z_iret rfl d_Mod_game_96 (by unfold gmR; rw [if_neg (by omega), if_neg (by omega)]; first | rw [if_pos (by omega)] | rw [if_neg (by omega)]) (hQ _ _ _ _ _ _ _ _ _)
      · refine z_iconst d_Mod_game_91 ?_
        refine j_goto (t := 96) d_Mod_game_92 (by decide) ?_
        exact z_iret rfl d_Mod_game_96 (by unfold gmR; rw [if_neg (by omega), if_neg (by omega)]; first | rw [if_pos (by omega)] | rw [if_neg (by omega)]) (hQ _ _ _ _ _ _ _ _ _)
    · refine j_aload_n d_Mod_game_60 rfl ?_
      refine z_iconst d_Mod_game_61 ?_
      refine j_aload_n d_Mod_game_62 rfl ?_
      refine v_call0 d_Mod_game_63 c_Mod_125 rfl ⟨_, rfl, rfl⟩ (Nat.le_of_ble_eq_true rfl) (t_Mod_length  ?_)
      refine v_call2 d_Mod_game_66 c_Mod_384 rfl ⟨_, rfl, rfl⟩ (Nat.le_of_ble_eq_true rfl) (t_Mod_leastOf (by omega) (by omega) (by omega) (by omega) ?_)
      exact z_iret rfl d_Mod_game_69 (by unfold gmR; rw [if_neg (by omega), if_pos (by omega)]; exact hz4 _ _ (by omega) (by omega) (by omega)) (hQ _ _ _ _ _ _ _ _ _)
  · have hsp := hs p (by omega) (by omega)
    refine j_aload_n d_Mod_game_35 rfl ?_
    refine mg_strikes0 f_Mod_88 d_Mod_game_36 ?_
    refine j_iload_n d_Mod_game_39 rfl ?_
    refine j_aload_n d_Mod_game_40 rfl ?_
    refine j_iload_n d_Mod_game_41 rfl ?_
    refine v_call1 d_Mod_game_42 c_Mod_438 rfl ⟨_, rfl, rfl⟩ (Nat.le_of_ble_eq_true rfl) (t_Mod_worthAt hn0 hn1 hs hC f0 f1 hz (by omega) (by omega) (hk.has (head := 3) (s := x2 (1 + p)) (p := p) (wo := 1) (by omega) (by omega) (by omega) (by omega)) (fun l22 l23 l24 l25 w26 w29 w30 => ?_))
    refine ms_strikes0 d_Mod_game_45 (by omega) (by omega) ?_
    refine z_iinc d_Mod_game_46 rfl (by decide) ?_
    show SJ _ _ _ _ [_, _, _] _ _ _ _ _
    refine j_goto (t := 27) d_Mod_game_49 (by decide) ?_
    exact ih _ (by omega) _ _ _ _ _ _ _ _ _ rfl (by omega) (by omega) (fun j e1 e2 => by by_cases e : j = p; (subst e; rw [up_eq]; rfl); (rw [up_ne e]; exact hy j e1 (by omega)))
theorem t_Mod_game {g : Bool} {d : Nat} {Q : List xM → Option Value → Prop} {i0 i6 i8 i9 i10 i13 i14 i18 i19 i20 i21 i22 i23 i24 i25 i27 i28 i33 i42 i43 i44 i45 i46 i47 i48 i51 i52 : Int} {x1 x2 x3 x4 x5 x7 x11 x12 x15 x16 x17 x26 x29 x30 x31 x32 x34 x35 x36 x37 x38 x39 x40 x41 x49 x50 : Int → Int} (hk : KOK x2) {w : Int} (r1 : R32 w) (hnx : ¬ (0 ≤ w ∧ w ≤ 1) ∨ (w = 1 ∧ x2 0 = 0) → Q (MM i0 i6 i8 i9 i10 i13 i14 i18 i19 i20 i21 i22 i23 i24 i25 i27 i28 i33 i42 i43 i44 i45 i46 i47 i48 i51 i52 x1 x2 x3 x4 x5 x7 x11 x12 x15 x16 x17 x26 x29 x30 x31 x32 x34 x35 x36 x37 x38 x39 x40 x41 x49 x50) (some (.int (ii (-100000))))) (hQ : ∀ z4 z6, ∀ j22 j23 j24 j25 y26 y29 y30, Q (MM i0 i6 i8 i9 i10 i13 i14 i18 i19 i20 i21 j22 j23 j24 j25 i27 i28 i33 i42 i43 i44 i45 i46 i47 i48 i51 i52 x1 x2 x3 x4 x5 x7 x11 x12 x15 x16 x17 y26 y29 y30 x31 x32 z4 x35 z6 x37 x38 x39 x40 x41 x49 x50) (some (.int (ii (gmR x2 w)))))  : CT g m_Mod_game (d + 89) [.ref 0, .int (ii w)] (MM i0 i6 i8 i9 i10 i13 i14 i18 i19 i20 i21 i22 i23 i24 i25 i27 i28 i33 i42 i43 i44 i45 i46 i47 i48 i51 i52 x1 x2 x3 x4 x5 x7 x11 x12 x15 x16 x17 x26 x29 x30 x31 x32 x34 x35 x36 x37 x38 x39 x40 x41 x49 x50) 0 0 Q := by
  refine CT.of (by decide) (Nat.le_of_ble_eq_true rfl) ?_
  show SJ _ _ _ _ [some (.ref 0), some (.int (ii w)), none] [] _ _ _ _
  obtain ⟨⟨⟨hn0, hn1⟩, hs, hpg, hdp, hmo, hco, hfo⟩, hC, hz, hLw⟩ := id hk
  have f0 := hfo.1
  have f1 : x2 25 ≤ 5 := by omega
  clear hLw
  refine j_iload_n d_Mod_game_0 rfl ?_
  refine z_iconst d_Mod_game_1 ?_
  refine z_iconst d_Mod_game_2 ?_
  refine s_call3 d_Mod_game_3 c_Mod_18 (Nat.le_of_ble_eq_true rfl) (t_Mod_lies (by first | omega | exact hw _ | exact hx _ _ | assumption) (by first | omega | exact hw _ | exact hx _ _ | assumption) (by first | omega | exact hw _ | exact hx _ _ | assumption) (fun h3 => ?_) (fun h3 => ?_))
  · refine z_if_eq (t := 21) d_Mod_game_6 (by decide) (by first | omega | exact hw _ | exact hx _ _ | assumption) (fun h => absurd h (by decide)) (fun _ => ?_)
    refine j_iload_n d_Mod_game_9 rfl ?_
    refine z_iconst d_Mod_game_10 ?_
    refine z_icmp_ne (t := 25) d_Mod_game_11 (by decide) (by first | omega | exact hw _ | exact hx _ _ | assumption) (by first | omega | exact hw _ | exact hx _ _ | assumption) (fun h11 => ?_) (fun h11 => ?_)
    · refine z_iconst d_Mod_game_25 ?_
      refine j_istore_n d_Mod_game_26 (by decide) ?_
      show SJ _ _ _ _ [_, _, _] _ _ _ _ _
      exact lp_game hk (by omega) (by omega) hQ _ 0 _ _ _ _ _ _ _ _ rfl (by omega) (by omega) (fun j e1 e2 => by omega)
    · refine j_aload_n d_Mod_game_14 rfl ?_
      refine v_call0 d_Mod_game_15 c_Mod_125 rfl ⟨_, rfl, rfl⟩ (Nat.le_of_ble_eq_true rfl) (t_Mod_length  ?_)
      refine z_if_ne (t := 25) d_Mod_game_18 (by decide) (by first | omega | exact hw _ | exact hx _ _ | assumption) (fun h18 => ?_) (fun h18 => ?_)
      · refine z_iconst d_Mod_game_25 ?_
        refine j_istore_n d_Mod_game_26 (by decide) ?_
        show SJ _ _ _ _ [_, _, _] _ _ _ _ _
        exact lp_game hk (by omega) (by omega) hQ _ 0 _ _ _ _ _ _ _ _ rfl (by omega) (by omega) (fun j e1 e2 => by omega)
      · refine z_ldcw (w := -100000) d_Mod_game_21 k_Mod_437 (by decide) ?_
        exact z_iret rfl d_Mod_game_24 rfl (hnx (by omega))
  · refine z_if_eq (t := 21) d_Mod_game_6 (by decide) (by first | omega | exact hw _ | exact hx _ _ | assumption) (fun _ => ?_) (fun h => absurd h (by decide))
    refine z_ldcw (w := -100000) d_Mod_game_21 k_Mod_437 (by decide) ?_
    exact z_iret rfl d_Mod_game_24 rfl (hnx (by omega))
