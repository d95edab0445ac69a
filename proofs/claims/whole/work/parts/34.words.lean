theorem and255 {b : Int} (h1 : -128 ≤ b) (h2 : b ≤ 127) : ii b &&& ii 255 = ii (ub b) := by
  have key : ∀ x : Fin 256, ii ((x : Nat) - 128 : Int) &&& ii 255 = ii (ub ((x : Nat) - 128 : Int)) := by decide +kernel
  have := key ⟨(b + 128).toNat, by omega⟩
  rw [show (((⟨(b + 128).toNat, by omega⟩ : Fin 256) : Nat) - 128 : Int) = b by show (((b + 128).toNat : Nat) : Int) - 128 = b; omega] at this
  exact this
theorem t_Mod_isSmall {g : Bool} {d : Nat} {Q : List xM → Option Value → Prop} {mem : List xM} {s : Int} (r1 : R32 s) (ht : isS s → Q mem (some (.int (ii 1)))) (hf : ¬ (isS s) → Q mem (some (.int (ii 0)))) : CT g m_Mod_isSmall d [.int (ii s)] mem 0 0 Q := by
  refine CT.of (by decide) (Nat.le_of_ble_eq_true rfl) ?_
  show SJ _ _ _ _ [some (.int (ii s))] [] _ _ _ _
  refine j_iload_n d_Mod_isSmall_0 rfl ?_
  refine z_bipush d_Mod_isSmall_1 (by decide) ?_
  refine z_icmp_lt (t := 16) d_Mod_isSmall_3 (by decide) (by first | omega | exact hw _ | exact hx _ _ | assumption) (by first | omega | exact hw _ | exact hx _ _ | assumption) (fun h3 => ?_) (fun h3 => ?_)
  · refine z_iconst d_Mod_isSmall_16 ?_
    exact z_zreturn rfl (Or.inl rfl) d_Mod_isSmall_17 (hf (by first | omega | simp_all))
  · refine j_iload_n d_Mod_isSmall_6 rfl ?_
    refine z_bipush d_Mod_isSmall_7 (by decide) ?_
    refine z_icmp_gt (t := 16) d_Mod_isSmall_9 (by decide) (by first | omega | exact hw _ | exact hx _ _ | assumption) (by first | omega | exact hw _ | exact hx _ _ | assumption) (fun h9 => ?_) (fun h9 => ?_)
    · refine z_iconst d_Mod_isSmall_16 ?_
      exact z_zreturn rfl (Or.inl rfl) d_Mod_isSmall_17 (hf (by first | omega | simp_all))
    · refine z_iconst d_Mod_isSmall_12 ?_
      refine j_goto (t := 17) d_Mod_isSmall_13 (by decide) ?_
      exact z_zreturn rfl (Or.inr rfl) d_Mod_isSmall_17 (ht (by first | omega | simp_all))
theorem t_Mod_isDigit {g : Bool} {d : Nat} {Q : List xM → Option Value → Prop} {mem : List xM} {s : Int} (r1 : R32 s) (ht : isDg s → Q mem (some (.int (ii 1)))) (hf : ¬ (isDg s) → Q mem (some (.int (ii 0)))) : CT g m_Mod_isDigit d [.int (ii s)] mem 0 0 Q := by
  refine CT.of (by decide) (Nat.le_of_ble_eq_true rfl) ?_
  show SJ _ _ _ _ [some (.int (ii s))] [] _ _ _ _
  refine j_iload_n d_Mod_isDigit_0 rfl ?_
  refine z_bipush d_Mod_isDigit_1 (by decide) ?_
  refine z_icmp_lt (t := 16) d_Mod_isDigit_3 (by decide) (by first | omega | exact hw _ | exact hx _ _ | assumption) (by first | omega | exact hw _ | exact hx _ _ | assumption) (fun h3 => ?_) (fun h3 => ?_)
  · refine z_iconst d_Mod_isDigit_16 ?_
    exact z_zreturn rfl (Or.inl rfl) d_Mod_isDigit_17 (hf (by first | omega | simp_all))
  · refine j_iload_n d_Mod_isDigit_6 rfl ?_
    refine z_bipush d_Mod_isDigit_7 (by decide) ?_
    refine z_icmp_gt (t := 16) d_Mod_isDigit_9 (by decide) (by first | omega | exact hw _ | exact hx _ _ | assumption) (by first | omega | exact hw _ | exact hx _ _ | assumption) (fun h9 => ?_) (fun h9 => ?_)
    · refine z_iconst d_Mod_isDigit_16 ?_
      exact z_zreturn rfl (Or.inl rfl) d_Mod_isDigit_17 (hf (by first | omega | simp_all))
    · refine z_iconst d_Mod_isDigit_12 ?_
      refine j_goto (t := 17) d_Mod_isDigit_13 (by decide) ?_
      exact z_zreturn rfl (Or.inr rfl) d_Mod_isDigit_17 (ht (by first | omega | simp_all))
theorem lp_word1 {g : Bool} {d : Nat} {Q : List xM → Option Value → Prop} {i0 i6 i8 i9 i10 i13 i14 i18 i19 i20 i21 i22 i23 i24 i25 i27 i28 i33 i42 i43 i44 i45 i46 i47 i48 i51 i52 : Int} {x1 x2 x3 x4 x5 x7 x11 x12 x15 x16 x17 x26 x29 x30 x31 x32 x34 x35 x36 x37 x38 x39 x40 x41 x49 x50 : Int → Int} {ff ee : Int} {wn kk ln : Int} (b0 : 0 ≤ kk) (b1 : kk + ln < 137) (hA : ∀ j, 0 ≤ j → j < ln → x7 (kk + j) ≠ 32) (hE : x7 (kk + ln) = 32) (hr7 : ∀ j, 0 ≤ j → j < 137 → -128 ≤ x7 j ∧ x7 j ≤ 255) (hkk : SJ g m_Mod_wordOf d 39 [some (.ref 0), some (.int (ii ff)), some (.int (ii ee)), some (.int (ii wn)), some (.int (ii kk)), some (.int (ii ln)), none, none] [] (MM i0 i6 i8 i9 i10 i13 i14 i18 i19 i20 i21 i22 i23 i24 i25 i27 i28 i33 i42 i43 i44 i45 i46 i47 i48 i51 i52 x1 x2 x3 x4 x5 x7 x11 x12 x15 x16 x17 x26 x29 x30 x31 x32 x34 x35 x36 x37 x38 x39 x40 x41 x49 x50) 0 0 Q) : ∀ (nn : Nat) (n : Int), (ln - n).toNat = nn → 0 ≤ n → n ≤ ln → SJ g m_Mod_wordOf d 18 [some (.ref 0), some (.int (ii ff)), some (.int (ii ee)), some (.int (ii wn)), some (.int (ii kk)), some (.int (ii n)), none, none] [] (MM i0 i6 i8 i9 i10 i13 i14 i18 i19 i20 i21 i22 i23 i24 i25 i27 i28 i33 i42 i43 i44 i45 i46 i47 i48 i51 i52 x1 x2 x3 x4 x5 x7 x11 x12 x15 x16 x17 x26 x29 x30 x31 x32 x34 x35 x36 x37 x38 x39 x40 x41 x49 x50) 0 0 Q := by
  intro nn
  induction nn using Nat.strongRecOn with
  | ind nn ih =>
  intro n hn n0 n1
  refine j_aload_n d_Mod_wordOf_18 rfl ?_
  refine mg_words f_Mod_45 d_Mod_wordOf_19 ?_
  refine j_iload d_Mod_wordOf_22 rfl ?_
  refine j_iload d_Mod_wordOf_24 rfl ?_
  refine z_iadd d_Mod_wordOf_26 ?_
  have hrr := hr7 (kk + n) (by omega) (by omega)
  refine ml_words d_Mod_wordOf_27 (by omega) (by omega) ?_
  refine z_bipush d_Mod_wordOf_28 (by decide) ?_
  refine z_icmp_eq (t := 39) d_Mod_wordOf_30 (by decide) (by first | omega | exact hw _ | exact hx _ _ | assumption) (by first | omega | exact hw _ | exact hx _ _ | assumption) (fun h30 => ?_) (fun h30 => ?_)
  · have e : n = ln := by
      by_cases q : n < ln
      · exact absurd h30 (hA n n0 q)
      · omega
    subst e
    exact hkk
  · refine z_iinc d_Mod_wordOf_33 rfl (by decide) ?_
    show SJ _ _ _ _ [_, _, _, _, _, _, _, _] _ _ _ _ _
    refine j_goto (t := 18) d_Mod_wordOf_36 (by decide) ?_
    have hne : n ≠ ln := fun e => by rw [e] at h30; omega
    exact ih _ (by omega) _ rfl (by omega) (by omega)
theorem lp_word2 {g : Bool} {d : Nat} {Q : List xM → Option Value → Prop} {i0 i6 i8 i9 i10 i13 i14 i18 i19 i20 i21 i22 i23 i24 i25 i27 i28 i33 i42 i43 i44 i45 i46 i47 i48 i51 i52 : Int} {x1 x2 x3 x4 x5 x7 x11 x12 x15 x16 x17 x26 x29 x30 x31 x32 x34 x35 x36 x37 x38 x39 x40 x41 x49 x50 : Int → Int} {ff ee : Int} {wn kk ln : Int} (f0 : 0 ≤ ff) (e1 : ee ≤ 400) (b0 : 0 ≤ kk) (b1 : kk + ln < 137) (ht : ∀ j, 0 ≤ j → j < 400 → -128 ≤ x11 j ∧ x11 j ≤ 127) (hr7 : ∀ j, 0 ≤ j → j < 137 → -128 ≤ x7 j ∧ x7 j ≤ 255) (q1 : ln = ee - ff) (hkt : (ln = ee - ff ∧ ∀ j, 0 ≤ j → j < ln → x7 (kk + j) = x11 (ff + j)) → SJ g m_Mod_wordOf d 104 [some (.ref 0), some (.int (ii ff)), some (.int (ii ee)), some (.int (ii wn)), some (.int (ii kk)), some (.int (ii ln)), some (.int (ii 1)), none] [] (MM i0 i6 i8 i9 i10 i13 i14 i18 i19 i20 i21 i22 i23 i24 i25 i27 i28 i33 i42 i43 i44 i45 i46 i47 i48 i51 i52 x1 x2 x3 x4 x5 x7 x11 x12 x15 x16 x17 x26 x29 x30 x31 x32 x34 x35 x36 x37 x38 x39 x40 x41 x49 x50) 0 0 Q) (hkf : ¬ ((ln = ee - ff ∧ ∀ j, 0 ≤ j → j < ln → x7 (kk + j) = x11 (ff + j))) → SJ g m_Mod_wordOf d 104 [some (.ref 0), some (.int (ii ff)), some (.int (ii ee)), some (.int (ii wn)), some (.int (ii kk)), some (.int (ii ln)), some (.int (ii 0)), none] [] (MM i0 i6 i8 i9 i10 i13 i14 i18 i19 i20 i21 i22 i23 i24 i25 i27 i28 i33 i42 i43 i44 i45 i46 i47 i48 i51 i52 x1 x2 x3 x4 x5 x7 x11 x12 x15 x16 x17 x26 x29 x30 x31 x32 x34 x35 x36 x37 x38 x39 x40 x41 x49 x50) 0 0 Q) : ∀ (nn : Nat) (q : Int), (ln - q).toNat = nn → 0 ≤ q → q ≤ ln → (∀ j, 0 ≤ j → j < q → x7 (kk + j) = x11 (ff + j)) → SJ g m_Mod_wordOf d 57 [some (.ref 0), some (.int (ii ff)), some (.int (ii ee)), some (.int (ii wn)), some (.int (ii kk)), some (.int (ii ln)), some (.int (ii 1)), some (.int (ii q))] [] (MM i0 i6 i8 i9 i10 i13 i14 i18 i19 i20 i21 i22 i23 i24 i25 i27 i28 i33 i42 i43 i44 i45 i46 i47 i48 i51 i52 x1 x2 x3 x4 x5 x7 x11 x12 x15 x16 x17 x26 x29 x30 x31 x32 x34 x35 x36 x37 x38 x39 x40 x41 x49 x50) 0 0 Q := by
  intro nn
  induction nn using Nat.strongRecOn with
  | ind nn ih =>
  intro q hn q0 q2 hq
  refine j_iload d_Mod_wordOf_57 rfl ?_
  refine j_iload d_Mod_wordOf_59 rfl ?_
  refine z_icmp_ge (t := 104) d_Mod_wordOf_61 (by decide) (by first | omega | exact hw _ | exact hx _ _ | assumption) (by first | omega | exact hw _ | exact hx _ _ | assumption) (fun h61 => ?_) (fun h61 => ?_)
  · refine SJ.mask [true, true, true, true, true, true, true, false] ?_
    show SJ _ _ _ _ [_, _, _, _, _, _, _, none] _ _ _ _ _
    exact hkt ⟨q1, fun j j0 j1 => hq j j0 (by omega)⟩
  · refine j_iload d_Mod_wordOf_64 rfl ?_
    refine z_if_eq (t := 104) d_Mod_wordOf_66 (by decide) (by first | omega | exact hw _ | exact hx _ _ | assumption) (fun h => absurd h (by decide)) (fun _ => ?_)
    have hrr := hr7 (kk + q) (by omega) (by omega)
    have hrt := ht (ff + q) (by omega) (by omega)
    refine j_aload_n d_Mod_wordOf_69 rfl ?_
    refine mg_words f_Mod_45 d_Mod_wordOf_70 ?_
    refine j_iload d_Mod_wordOf_73 rfl ?_
    refine j_iload d_Mod_wordOf_75 rfl ?_
    refine z_iadd d_Mod_wordOf_77 ?_
    refine ml_words d_Mod_wordOf_78 (by omega) (by omega) ?_
    refine j_aload_n d_Mod_wordOf_79 rfl ?_
    refine mg_tape f_Mod_49 d_Mod_wordOf_80 ?_
    refine j_iload_n d_Mod_wordOf_83 rfl ?_
    refine j_iload d_Mod_wordOf_84 rfl ?_
    refine z_iadd d_Mod_wordOf_86 ?_
    refine ml_tape d_Mod_wordOf_87 (by omega) (by omega) ?_
    refine z_icmp_ne (t := 95) d_Mod_wordOf_88 (by decide) (by first | omega | exact hw _ | exact hx _ _ | assumption) (by first | omega | exact hw _ | exact hx _ _ | assumption) (fun h88 => ?_) (fun h88 => ?_)
    · refine z_iconst d_Mod_wordOf_95 ?_
      refine j_istore d_Mod_wordOf_96 (by decide) ?_
      show SJ _ _ _ _ [_, _, _, _, _, _, _, _] _ _ _ _ _
      refine z_iinc d_Mod_wordOf_98 rfl (by decide) ?_
      show SJ _ _ _ _ [_, _, _, _, _, _, _, _] _ _ _ _ _
      refine j_goto (t := 57) d_Mod_wordOf_101 (by decide) ?_
      refine j_iload d_Mod_wordOf_57 rfl ?_
      refine j_iload d_Mod_wordOf_59 rfl ?_
      refine z_icmp_ge (t := 104) d_Mod_wordOf_61 (by decide) (by first | omega | exact hw _ | exact hx _ _ | assumption) (by first | omega | exact hw _ | exact hx _ _ | assumption) (fun h61 => ?_) (fun h61 => ?_)
      · refine SJ.mask [true, true, true, true, true, true, true, false] ?_
        show SJ _ _ _ _ [_, _, _, _, _, _, _, none] _ _ _ _ _
        exact hkf (fun z => h88 (z.2 q q0 (by omega)))
      · refine j_iload d_Mod_wordOf_64 rfl ?_
        refine z_if_eq (t := 104) d_Mod_wordOf_66 (by decide) (by first | omega | exact hw _ | exact hx _ _ | assumption) (fun _ => ?_) (fun h => absurd h (by decide))
        refine SJ.mask [true, true, true, true, true, true, true, false] ?_
        show SJ _ _ _ _ [_, _, _, _, _, _, _, none] _ _ _ _ _
        exact hkf (fun z => h88 (z.2 q q0 (by omega)))
    · refine z_iconst d_Mod_wordOf_91 ?_
      refine j_goto (t := 96) d_Mod_wordOf_92 (by decide) ?_
      refine j_istore d_Mod_wordOf_96 (by decide) ?_
      show SJ _ _ _ _ [_, _, _, _, _, _, _, _] _ _ _ _ _
      refine z_iinc d_Mod_wordOf_98 rfl (by decide) ?_
      show SJ _ _ _ _ [_, _, _, _, _, _, _, _] _ _ _ _ _
      refine j_goto (t := 57) d_Mod_wordOf_101 (by decide) ?_
      exact ih _ (by omega) _ rfl (by omega) (by omega) (fun j j0 j1 => by
        by_cases e : j = q
        · rw [e]; exact h88
        · exact hq j j0 (by omega))
theorem lp_word3 {g : Bool} {d : Nat} {Q : List xM → Option Value → Prop} {i0 i6 i8 i9 i10 i13 i14 i18 i19 i20 i21 i22 i23 i24 i25 i27 i28 i33 i42 i43 i44 i45 i46 i47 i48 i51 i52 : Int} {x1 x2 x3 x4 x5 x7 x11 x12 x15 x16 x17 x26 x29 x30 x31 x32 x34 x35 x36 x37 x38 x39 x40 x41 x49 x50 : Int → Int} {ff ee : Int} (ht : ∀ j, 0 ≤ j → j < 400 → -128 ≤ x11 j ∧ x11 j ≤ 127) (hw7 : ∀ j, 0 ≤ j → j < 137 → x7 j = ofL TA j) (f0 : 0 ≤ ff) (e0 : ff ≤ ee) (e1 : ee ≤ 400) (hr7 : ∀ j, 0 ≤ j → j < 137 → -128 ≤ x7 j ∧ x7 j ≤ 255) {R : Int} (hQ : Q (MM i0 i6 i8 i9 i10 i13 i14 i18 i19 i20 i21 i22 i23 i24 i25 i27 i28 i33 i42 i43 i44 i45 i46 i47 i48 i51 i52 x1 x2 x3 x4 x5 x7 x11 x12 x15 x16 x17 x26 x29 x30 x31 x32 x34 x35 x36 x37 x38 x39 x40 x41 x49 x50) (some (.int (ii R)))) : ∀ (nn : Nat) (k : Nat) (wn : Int) (ws : List (List Int)), ((137 - k : Int)).toNat = nn → tbl TA k ws = true → fnd (isW x11 ff ee) 0 wn ws = R → k ≤ 137 → SJ g m_Mod_wordOf d 5 [some (.ref 0), some (.int (ii ff)), some (.int (ii ee)), some (.int (ii wn)), some (.int (ii ((k : Int)))), none, none, none] [] (MM i0 i6 i8 i9 i10 i13 i14 i18 i19 i20 i21 i22 i23 i24 i25 i27 i28 i33 i42 i43 i44 i45 i46 i47 i48 i51 i52 x1 x2 x3 x4 x5 x7 x11 x12 x15 x16 x17 x26 x29 x30 x31 x32 x34 x35 x36 x37 x38 x39 x40 x41 x49 x50) 0 0 Q := by
  intro nn
  induction nn using Nat.strongRecOn with
  | ind nn ih =>
  intro k wn ws hn hT hR hk1
  have hTA : TA.length = 137 := rfl
  refine j_iload d_Mod_wordOf_5 rfl ?_
  refine j_aload_n d_Mod_wordOf_7 rfl ?_
  refine mg_words f_Mod_45 d_Mod_wordOf_8 ?_
  refine j_alen d_Mod_wordOf_11 rfl (by decide) (show Int32.ofNat 137 = ii 137 by decide) ?_
  refine z_icmp_ge (t := 126) d_Mod_wordOf_12 (by decide) (by first | omega | exact hw _ | exact hx _ _ | assumption) (by first | omega | exact hw _ | exact hx _ _ | assumption) (fun h12 => ?_) (fun h12 => ?_)
  · have hnil : ws = [] := by
      cases ws with
      | nil => rfl
      | cons a b => exact absurd (tbl_cons hT).2.2.1 (by omega)
    rw [hnil] at hR
    have hR2 : (0 : Int) = R := hR
    subst hR2
    refine z_iconst d_Mod_wordOf_126 ?_
    exact z_iret rfl d_Mod_wordOf_127 rfl hQ
  · obtain ⟨w0, ws, rfl⟩ : ∃ a b, ws = a :: b := by
      cases ws with
      | nil => exact absurd (tbl_nil hT) (by omega)
      | cons a b => exact ⟨a, b, rfl⟩
    obtain ⟨ha, hb, hc, hT2⟩ := tbl_cons hT
    obtain ⟨ln, hln⟩ : ∃ ln : Int, ln = (w0.length : Int) := ⟨_, rfl⟩
    rw [← hln] at hb
    simp only [fnd] at hR
    have hisW : isW x11 ff ee w0 = true ↔ (ln = ee - ff ∧ ∀ j, 0 ≤ j → j < ln → x7 ((k : Int) + j) = x11 (ff + j)) := by
      unfold isW
      rw [Bool.and_eq_true, decide_eq_true_eq, eqT_N]
      constructor
      · rintro ⟨z1, z2⟩
        refine ⟨by omega, fun j j0 j1 => ?_⟩
        have z3 := z2 j.toNat (by omega)
        have z4 := (ha j.toNat (by omega)).1
        rw [Int.toNat_of_nonneg j0] at z3 z4
        rw [hw7 _ (by omega) (by omega), z4, z3]
      · rintro ⟨z1, z2⟩
        refine ⟨by omega, fun i hi => ?_⟩
        rw [← (ha i hi).1, ← hw7 _ (by omega) (by omega)]
        exact z2 i (by omega) (by omega)
    refine z_iconst d_Mod_wordOf_15 ?_
    refine j_istore d_Mod_wordOf_16 (by decide) ?_
    show SJ _ _ _ _ [_, _, _, _, _, _, _, _] _ _ _ _ _
    refine lp_word1 (ln := ln) (by omega) (by omega) (fun j j0 j1 => ?_) (by rw [hw7 _ (by omega) (by omega)]; exact hb) hr7 ?_ _ 0 rfl (by omega) (by omega)
    · rw [hw7 _ (by omega) (by omega)]
      have z4 := (ha j.toNat (by omega)).2
      rw [Int.toNat_of_nonneg j0] at z4
      exact z4
    refine j_iload d_Mod_wordOf_39 rfl ?_
    refine j_iload_n d_Mod_wordOf_41 rfl ?_
    refine j_iload_n d_Mod_wordOf_42 rfl ?_
    refine z_isub d_Mod_wordOf_43 ?_
    refine z_icmp_ne (t := 51) d_Mod_wordOf_44 (by decide) (by first | omega | exact hw _ | exact hx _ _ | assumption) (by first | omega | exact hw _ | exact hx _ _ | assumption) (fun h44 => ?_) (fun h44 => ?_)
    · refine z_iconst d_Mod_wordOf_51 ?_
      refine j_istore d_Mod_wordOf_52 (by decide) ?_
      show SJ _ _ _ _ [_, _, _, _, _, _, _, _] _ _ _ _ _
      refine z_iconst d_Mod_wordOf_54 ?_
      refine j_istore d_Mod_wordOf_55 (by decide) ?_
      show SJ _ _ _ _ [_, _, _, _, _, _, _, _] _ _ _ _ _
      refine j_iload d_Mod_wordOf_57 rfl ?_
      refine j_iload d_Mod_wordOf_59 rfl ?_
      refine z_icmp_ge (t := 104) d_Mod_wordOf_61 (by decide) (by first | omega | exact hw _ | exact hx _ _ | assumption) (by first | omega | exact hw _ | exact hx _ _ | assumption) (fun h61 => ?_) (fun h61 => ?_)
      · have hy : ¬ (ln = ee - ff ∧ ∀ j, 0 ≤ j → j < ln → x7 ((k : Int) + j) = x11 (ff + j)) := fun z => h44 z.1
        refine j_iload d_Mod_wordOf_104 rfl ?_
        refine z_if_eq (t := 111) d_Mod_wordOf_106 (by decide) (by first | omega | exact hw _ | exact hx _ _ | assumption) (fun _ => ?_) (fun h => absurd h (by decide))
        refine j_iload d_Mod_wordOf_111 rfl ?_
        refine j_iload d_Mod_wordOf_113 rfl ?_
        refine z_iconst d_Mod_wordOf_115 ?_
        refine z_iadd d_Mod_wordOf_116 ?_
        refine z_iadd d_Mod_wordOf_117 ?_
        refine j_istore d_Mod_wordOf_118 (by decide) ?_
        show SJ _ _ _ _ [_, _, _, _, _, _, _, _] _ _ _ _ _
        refine z_iinc d_Mod_wordOf_120 rfl (by decide) ?_
        show SJ _ _ _ _ [_, _, _, _, _, _, _, _] _ _ _ _ _
        refine j_goto (t := 5) d_Mod_wordOf_123 (by decide) ?_
        rw [if_neg (fun z => hy (hisW.mp z))] at hR
        rw [show (k : Int) + (ln + 1) = ((k + w0.length + 1 : Nat) : Int) by omega]
        refine SJ.mask [true, true, true, true, true, false, false, false] ?_
        show SJ _ _ _ _ [_, _, _, _, _, none, none, none] _ _ _ _ _
        exact ih _ (by omega) _ _ _ rfl hT2 hR (by omega)
      · refine j_iload d_Mod_wordOf_64 rfl ?_
        refine z_if_eq (t := 104) d_Mod_wordOf_66 (by decide) (by first | omega | exact hw _ | exact hx _ _ | assumption) (fun _ => ?_) (fun h => absurd h (by decide))
        have hy : ¬ (ln = ee - ff ∧ ∀ j, 0 ≤ j → j < ln → x7 ((k : Int) + j) = x11 (ff + j)) := fun z => h44 z.1
        refine j_iload d_Mod_wordOf_104 rfl ?_
        refine z_if_eq (t := 111) d_Mod_wordOf_106 (by decide) (by first | omega | exact hw _ | exact hx _ _ | assumption) (fun _ => ?_) (fun h => absurd h (by decide))
        refine j_iload d_Mod_wordOf_111 rfl ?_
        refine j_iload d_Mod_wordOf_113 rfl ?_
        refine z_iconst d_Mod_wordOf_115 ?_
        refine z_iadd d_Mod_wordOf_116 ?_
        refine z_iadd d_Mod_wordOf_117 ?_
        refine j_istore d_Mod_wordOf_118 (by decide) ?_
        show SJ _ _ _ _ [_, _, _, _, _, _, _, _] _ _ _ _ _
        refine z_iinc d_Mod_wordOf_120 rfl (by decide) ?_
        show SJ _ _ _ _ [_, _, _, _, _, _, _, _] _ _ _ _ _
        refine j_goto (t := 5) d_Mod_wordOf_123 (by decide) ?_
        rw [if_neg (fun z => hy (hisW.mp z))] at hR
        rw [show (k : Int) + (ln + 1) = ((k + w0.length + 1 : Nat) : Int) by omega]
        refine SJ.mask [true, true, true, true, true, false, false, false] ?_
        show SJ _ _ _ _ [_, _, _, _, _, none, none, none] _ _ _ _ _
        exact ih _ (by omega) _ _ _ rfl hT2 hR (by omega)
    · refine z_iconst d_Mod_wordOf_47 ?_
      refine j_goto (t := 52) d_Mod_wordOf_48 (by decide) ?_
      refine j_istore d_Mod_wordOf_52 (by decide) ?_
      show SJ _ _ _ _ [_, _, _, _, _, _, _, _] _ _ _ _ _
      refine z_iconst d_Mod_wordOf_54 ?_
      refine j_istore d_Mod_wordOf_55 (by decide) ?_
      show SJ _ _ _ _ [_, _, _, _, _, _, _, _] _ _ _ _ _
      refine lp_word2 f0 e1 (by omega) (by omega) ht hr7 (by omega) (fun hy => ?_) (fun hy => ?_) _ 0 rfl (by omega) (by omega) (fun j j0 j1 => by omega)
      · refine j_iload d_Mod_wordOf_104 rfl ?_
        refine z_if_eq (t := 111) d_Mod_wordOf_106 (by decide) (by first | omega | exact hw _ | exact hx _ _ | assumption) (fun h => absurd h (by decide)) (fun _ => ?_)
        rw [if_pos (hisW.mpr hy)] at hR
        refine j_iload_n d_Mod_wordOf_109 rfl ?_
        exact z_iret rfl d_Mod_wordOf_110 hR hQ
      · refine j_iload d_Mod_wordOf_104 rfl ?_
        refine z_if_eq (t := 111) d_Mod_wordOf_106 (by decide) (by first | omega | exact hw _ | exact hx _ _ | assumption) (fun _ => ?_) (fun h => absurd h (by decide))
        refine j_iload d_Mod_wordOf_111 rfl ?_
        refine j_iload d_Mod_wordOf_113 rfl ?_
        refine z_iconst d_Mod_wordOf_115 ?_
        refine z_iadd d_Mod_wordOf_116 ?_
        refine z_iadd d_Mod_wordOf_117 ?_
        refine j_istore d_Mod_wordOf_118 (by decide) ?_
        show SJ _ _ _ _ [_, _, _, _, _, _, _, _] _ _ _ _ _
        refine z_iinc d_Mod_wordOf_120 rfl (by decide) ?_
        show SJ _ _ _ _ [_, _, _, _, _, _, _, _] _ _ _ _ _
        refine j_goto (t := 5) d_Mod_wordOf_123 (by decide) ?_
        rw [if_neg (fun z => hy (hisW.mp z))] at hR
        rw [show (k : Int) + (ln + 1) = ((k + w0.length + 1 : Nat) : Int) by omega]
        refine SJ.mask [true, true, true, true, true, false, false, false] ?_
        show SJ _ _ _ _ [_, _, _, _, _, none, none, none] _ _ _ _ _
        exact ih _ (by omega) _ _ _ rfl hT2 hR (by omega)
theorem t_Mod_wordOf {g : Bool} {d : Nat} {Q : List xM → Option Value → Prop} {i0 i6 i8 i9 i10 i13 i14 i18 i19 i20 i21 i22 i23 i24 i25 i27 i28 i33 i42 i43 i44 i45 i46 i47 i48 i51 i52 : Int} {x1 x2 x3 x4 x5 x7 x11 x12 x15 x16 x17 x26 x29 x30 x31 x32 x34 x35 x36 x37 x38 x39 x40 x41 x49 x50 : Int → Int} {ff ee : Int} (ht : ∀ j, 0 ≤ j → j < 400 → -128 ≤ x11 j ∧ x11 j ≤ 127) (hw7 : ∀ j, 0 ≤ j → j < 137 → x7 j = ofL TA j) (f0 : 0 ≤ ff) (e0 : ff ≤ ee) (e1 : ee ≤ 400) (hQ : Q (MM i0 i6 i8 i9 i10 i13 i14 i18 i19 i20 i21 i22 i23 i24 i25 i27 i28 i33 i42 i43 i44 i45 i46 i47 i48 i51 i52 x1 x2 x3 x4 x5 x7 x11 x12 x15 x16 x17 x26 x29 x30 x31 x32 x34 x35 x36 x37 x38 x39 x40 x41 x49 x50) (some (.int (ii ((fnd (isW x11 ff ee) 0 1 WA)))))) : CT g m_Mod_wordOf d [.ref 0, .int (ii ff), .int (ii ee)] (MM i0 i6 i8 i9 i10 i13 i14 i18 i19 i20 i21 i22 i23 i24 i25 i27 i28 i33 i42 i43 i44 i45 i46 i47 i48 i51 i52 x1 x2 x3 x4 x5 x7 x11 x12 x15 x16 x17 x26 x29 x30 x31 x32 x34 x35 x36 x37 x38 x39 x40 x41 x49 x50) 0 0 Q := by
  refine CT.of (by decide) (Nat.le_of_ble_eq_true rfl) ?_
  show SJ _ _ _ _ [some (.ref 0), some (.int (ii ff)), some (.int (ii ee)), none, none, none, none, none] [] _ _ _ _
  have hr7 : ∀ j, 0 ≤ j → j < 137 → -128 ≤ x7 j ∧ x7 j ≤ 255 := fun j j0 j1 => by
    rw [hw7 j j0 j1]
    have key : ∀ z : Fin 137, -128 ≤ ofL TA ((z : Nat) : Int) ∧ ofL TA ((z : Nat) : Int) ≤ 255 := by decide +kernel
    have := key ⟨j.toNat, by omega⟩
    rw [show (((⟨j.toNat, by omega⟩ : Fin 137) : Nat) : Int) = j from Int.toNat_of_nonneg j0] at this
    exact this
  refine z_iconst d_Mod_wordOf_0 ?_
  refine j_istore_n d_Mod_wordOf_1 (by decide) ?_
  show SJ _ _ _ _ [_, _, _, _, _, _, _, _] _ _ _ _ _
  refine z_iconst d_Mod_wordOf_2 ?_
  refine j_istore d_Mod_wordOf_3 (by decide) ?_
  show SJ _ _ _ _ [_, _, _, _, _, _, _, _] _ _ _ _ _
  exact lp_word3 ht hw7 f0 e0 e1 hr7 hQ _ 0 1 WA rfl tbl_A rfl (by omega)
