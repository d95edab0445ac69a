theorem lp_splitS {g : Bool} {d : Nat} {Q : List xM → Option Value → Prop} {i0 i6 i8 i9 i10 i13 i14 i18 i19 i20 i21 i22 i23 i24 i25 i27 i28 i33 i42 i43 i44 i45 i46 i47 i48 i51 i52 : Int} {x1 x2 x3 x4 x5 x7 x11 x12 x15 x16 x17 x26 x29 x30 x31 x32 x34 x35 x36 x37 x38 x39 x40 x41 x49 x50 : Int → Int} (ht : ∀ j, 0 ≤ j → j < 400 → -128 ≤ x11 j ∧ x11 j ≤ 127) {size k bb : Int} (s0 : 0 ≤ size) (s1 : size ≤ 400) (kq0 : 0 ≤ k) {E : Int} (hkk : SJ g m_Mod_splits (d + 1) 68 [some (.ref 0), some (.int (ii size)), some (.int (ii k)), some (.int (ii bb)), some (.int (ii E)), none] [] (MM i0 i6 i8 i9 i10 i13 i14 i18 i19 i20 i21 i22 i23 i24 i25 i27 i28 i33 i42 i43 i44 i45 i46 i47 i48 i51 i52 x1 x2 x3 x4 x5 x7 x11 x12 x15 x16 x17 x26 x29 x30 x31 x32 x34 x35 x36 x37 x38 x39 x40 x41 x49 x50) 0 0 Q) : ∀ (nn : Nat) (m : Nat) (to_ : Int), ((m : Int)).toNat = nn → 0 ≤ to_ → to_ ≤ size → size - to_ ≤ (m : Int) → rnT x11 isS size m to_ = E → SJ g m_Mod_splits (d + 1) 43 [some (.ref 0), some (.int (ii size)), some (.int (ii k)), some (.int (ii bb)), some (.int (ii (to_))), none] [] (MM i0 i6 i8 i9 i10 i13 i14 i18 i19 i20 i21 i22 i23 i24 i25 i27 i28 i33 i42 i43 i44 i45 i46 i47 i48 i51 i52 x1 x2 x3 x4 x5 x7 x11 x12 x15 x16 x17 x26 x29 x30 x31 x32 x34 x35 x36 x37 x38 x39 x40 x41 x49 x50) 0 0 Q := by
  intro nn
  induction nn using Nat.strongRecOn with
  | ind nn ih =>
  intro m to_ hn t0 t1 hm hE
  refine j_iload d_Mod_splits_43 rfl ?_
  refine j_iload_n d_Mod_splits_45 rfl ?_
  refine z_icmp_ge (t := 68) d_Mod_splits_46 (by decide) (by first | omega | exact hw _ | exact hx _ _ | assumption) (by first | omega | exact hw _ | exact hx _ _ | assumption) (fun h46 => ?_) (fun h46 => ?_)
  · first
    | (rw [if_neg (fun z => h56 z.2)] at hE
       subst hE
       exact hkk)
    | (have hE2 : to_ = E := by
         rw [← hE]
         cases m with
         | zero => rfl
         | succ m => simp only [rnT]; rw [if_neg (by omega)]
       subst hE2
       exact hkk)
  · have hrt := ht to_ (by omega) (by omega)
    obtain ⟨m, rfl⟩ : ∃ j, m = j + 1 := ⟨m - 1, by omega⟩
    simp only [rnT] at hE
    refine j_aload_n d_Mod_splits_49 rfl ?_
    refine mg_tape f_Mod_49 d_Mod_splits_50 ?_
    refine j_iload d_Mod_splits_53 rfl ?_
    refine ml_tape d_Mod_splits_55 (by omega) (by omega) ?_
    refine s_call1 d_Mod_splits_56 c_Mod_148 (Nat.le_of_ble_eq_true rfl) (t_Mod_isSmall (by first | omega | exact hw _ | exact hx _ _ | assumption) (fun h56 => ?_) (fun h56 => ?_))
    · refine z_if_eq (t := 68) d_Mod_splits_59 (by decide) (by first | omega | exact hw _ | exact hx _ _ | assumption) (fun h => absurd h (by decide)) (fun _ => ?_)
      refine z_iinc d_Mod_splits_62 rfl (by decide) ?_
      show SJ _ _ _ _ [_, _, _, _, _, _] _ _ _ _ _
      refine j_goto (t := 43) d_Mod_splits_65 (by decide) ?_
      rw [if_pos ⟨by omega, h56⟩] at hE
      exact ih _ (by omega) _ _ rfl (by omega) (by omega) (by omega) hE
    · refine z_if_eq (t := 68) d_Mod_splits_59 (by decide) (by first | omega | exact hw _ | exact hx _ _ | assumption) (fun _ => ?_) (fun h => absurd h (by decide))
      first
      | (rw [if_neg (fun z => h56 z.2)] at hE
         subst hE
         exact hkk)
      | (have hE2 : to_ = E := by
           rw [← hE]
           cases m with
           | zero => rfl
           | succ m => simp only [rnT]; rw [if_neg (by omega)]
         subst hE2
         exact hkk)
theorem lp_splitD {g : Bool} {d : Nat} {Q : List xM → Option Value → Prop} {i0 i6 i8 i9 i10 i13 i14 i18 i19 i20 i21 i22 i23 i24 i25 i27 i28 i33 i42 i43 i44 i45 i46 i47 i48 i51 i52 : Int} {x1 x2 x3 x4 x5 x7 x11 x12 x15 x16 x17 x26 x29 x30 x31 x32 x34 x35 x36 x37 x38 x39 x40 x41 x49 x50 : Int → Int} (ht : ∀ j, 0 ≤ j → j < 400 → -128 ≤ x11 j ∧ x11 j ≤ 127) {size k bb : Int} (s0 : 0 ≤ size) (s1 : size ≤ 400) (kq0 : 0 ≤ k) {E : Int} (hkk : SJ g m_Mod_splits (d + 1) 100 [some (.ref 0), some (.int (ii size)), some (.int (ii k)), some (.int (ii bb)), some (.int (ii E)), none] [] (MM i0 i6 i8 i9 i10 i13 i14 i18 i19 i20 i21 i22 i23 i24 i25 i27 i28 i33 i42 i43 i44 i45 i46 i47 i48 i51 i52 x1 x2 x3 x4 x5 x7 x11 x12 x15 x16 x17 x26 x29 x30 x31 x32 x34 x35 x36 x37 x38 x39 x40 x41 x49 x50) 0 0 Q) : ∀ (nn : Nat) (m : Nat) (to_ : Int), ((m : Int)).toNat = nn → 0 ≤ to_ → to_ ≤ size → size - to_ ≤ (m : Int) → rnT x11 isDg size m to_ = E → SJ g m_Mod_splits (d + 1) 75 [some (.ref 0), some (.int (ii size)), some (.int (ii k)), some (.int (ii bb)), some (.int (ii (to_))), none] [] (MM i0 i6 i8 i9 i10 i13 i14 i18 i19 i20 i21 i22 i23 i24 i25 i27 i28 i33 i42 i43 i44 i45 i46 i47 i48 i51 i52 x1 x2 x3 x4 x5 x7 x11 x12 x15 x16 x17 x26 x29 x30 x31 x32 x34 x35 x36 x37 x38 x39 x40 x41 x49 x50) 0 0 Q := by
  intro nn
  induction nn using Nat.strongRecOn with
  | ind nn ih =>
  intro m to_ hn t0 t1 hm hE
  refine j_iload d_Mod_splits_75 rfl ?_
  refine j_iload_n d_Mod_splits_77 rfl ?_
  refine z_icmp_ge (t := 100) d_Mod_splits_78 (by decide) (by first | omega | exact hw _ | exact hx _ _ | assumption) (by first | omega | exact hw _ | exact hx _ _ | assumption) (fun h78 => ?_) (fun h78 => ?_)
  · first
    | (rw [if_neg (fun z => h88 z.2)] at hE
       subst hE
       exact hkk)
    | (have hE2 : to_ = E := by
         rw [← hE]
         cases m with
         | zero => rfl
         | succ m => simp only [rnT]; rw [if_neg (by omega)]
       subst hE2
       exact hkk)
  · have hrt := ht to_ (by omega) (by omega)
    obtain ⟨m, rfl⟩ : ∃ j, m = j + 1 := ⟨m - 1, by omega⟩
    simp only [rnT] at hE
    refine j_aload_n d_Mod_splits_81 rfl ?_
    refine mg_tape f_Mod_49 d_Mod_splits_82 ?_
    refine j_iload d_Mod_splits_85 rfl ?_
    refine ml_tape d_Mod_splits_87 (by omega) (by omega) ?_
    refine s_call1 d_Mod_splits_88 c_Mod_151 (Nat.le_of_ble_eq_true rfl) (t_Mod_isDigit (by first | omega | exact hw _ | exact hx _ _ | assumption) (fun h88 => ?_) (fun h88 => ?_))
    · refine z_if_eq (t := 100) d_Mod_splits_91 (by decide) (by first | omega | exact hw _ | exact hx _ _ | assumption) (fun h => absurd h (by decide)) (fun _ => ?_)
      refine z_iinc d_Mod_splits_94 rfl (by decide) ?_
      show SJ _ _ _ _ [_, _, _, _, _, _] _ _ _ _ _
      refine j_goto (t := 75) d_Mod_splits_97 (by decide) ?_
      rw [if_pos ⟨by omega, h88⟩] at hE
      exact ih _ (by omega) _ _ rfl (by omega) (by omega) (by omega) hE
    · refine z_if_eq (t := 100) d_Mod_splits_91 (by decide) (by first | omega | exact hw _ | exact hx _ _ | assumption) (fun _ => ?_) (fun h => absurd h (by decide))
      first
      | (rw [if_neg (fun z => h88 z.2)] at hE
         subst hE
         exact hkk)
      | (have hE2 : to_ = E := by
           rw [← hE]
           cases m with
           | zero => rfl
           | succ m => simp only [rnT]; rw [if_neg (by omega)]
         subst hE2
         exact hkk)
theorem lp_splitN {g : Bool} {d : Nat} {Q : List xM → Option Value → Prop} {i0 i6 i8 i9 i10 i13 i14 i18 i19 i20 i21 i22 i23 i24 i25 i27 i28 i33 i42 i43 i44 i45 i46 i47 i48 i51 i52 : Int} {x1 x2 x3 x4 x5 x7 x11 x12 x15 x17 x26 x29 x30 x31 x32 x34 x35 x36 x37 x38 x39 x40 x41 x49 x50 : Int → Int} (ht : ∀ j, 0 ≤ j → j < 400 → -128 ≤ x11 j ∧ x11 j ≤ 127) (n0 : 0 ≤ i18) (n1 : i18 ≤ 400) {V : Int → Int} {size k bb : Int} (s0 : 0 ≤ size) (s1 : size ≤ 400) (kq0 : 0 ≤ k) {to_ : Int} (e1 : to_ ≤ size) (hbb : isDg bb) (hdg : ∀ j, k ≤ j → j < to_ → isDg (x11 j)) {R : Int} (hkk : SJ g m_Mod_splits (d + 1) 247 [some (.ref 0), some (.int (ii size)), some (.int (ii k)), some (.int (ii bb)), some (.int (ii to_)), none] [] (MM i0 i6 i8 i9 i10 i13 i14 i18 i19 i20 i21 i22 i23 i24 i25 i27 i28 i33 i42 i43 i44 i45 i46 i47 i48 i51 i52 x1 x2 x3 x4 x5 x7 x11 x12 x15 (up V i18 R) x17 x26 x29 x30 x31 x32 x34 x35 x36 x37 x38 x39 x40 x41 x49 x50) 0 0 Q) : ∀ (nn : Nat) (q : Int) (v : Int), (to_ - q).toNat = nn → k ≤ q → q ≤ to_ → 0 ≤ v → v ≤ 10000009 → nmT x11 (to_ - q).toNat q v = R → SJ g m_Mod_splits (d + 1) 169 [some (.ref 0), some (.int (ii size)), some (.int (ii k)), some (.int (ii bb)), some (.int (ii (to_))), some (.int (ii q))] [] (MM i0 i6 i8 i9 i10 i13 i14 i18 i19 i20 i21 i22 i23 i24 i25 i27 i28 i33 i42 i43 i44 i45 i46 i47 i48 i51 i52 x1 x2 x3 x4 x5 x7 x11 x12 x15 (up V i18 v) x17 x26 x29 x30 x31 x32 x34 x35 x36 x37 x38 x39 x40 x41 x49 x50) 0 0 Q := by
  intro nn
  induction nn using Nat.strongRecOn with
  | ind nn ih =>
  intro q v hn q0 q1 v0 v1 hR
  refine j_iload d_Mod_splits_169 rfl ?_
  refine j_iload d_Mod_splits_171 rfl ?_
  refine z_icmp_ge (t := 247) d_Mod_splits_173 (by decide) (by first | omega | exact hw _ | exact hx _ _ | assumption) (by first | omega | exact hw _ | exact hx _ _ | assumption) (fun h173 => ?_) (fun h173 => ?_)
  · first
    | (exfalso; omega)
    | (rw [show (to_ - q).toNat = 0 by omega] at hR
       have hR2 : v = R := hR
       subst hR2
       refine SJ.mask [true, true, true, true, true, false] ?_
       show SJ _ _ _ _ [_, _, _, _, _, none] _ _ _ _ _
       exact hkk)
  · have hrt := ht q (by omega) (by omega)
    have hd1 := hdg q (by omega) (by omega)
    rw [show (to_ - q).toNat = (to_ - (q + 1)).toNat + 1 by omega] at hR
    simp only [nmT] at hR
    refine j_iload_n d_Mod_splits_176 rfl ?_
    refine s_call1 d_Mod_splits_177 c_Mod_151 (Nat.le_of_ble_eq_true rfl) (t_Mod_isDigit (by first | omega | exact hw _ | exact hx _ _ | assumption) (fun h177 => ?_) (fun h177 => ?_))
    · refine z_if_eq (t := 247) d_Mod_splits_180 (by decide) (by first | omega | exact hw _ | exact hx _ _ | assumption) (fun h => absurd h (by decide)) (fun _ => ?_)
      refine j_aload_n d_Mod_splits_183 rfl ?_
      refine mg_value f_Mod_61 d_Mod_splits_184 ?_
      refine j_aload_n d_Mod_splits_187 rfl ?_
      refine mg_tokens f_Mod_145 d_Mod_splits_188 ?_
      refine j_aload_n d_Mod_splits_191 rfl ?_
      refine mg_value f_Mod_61 d_Mod_splits_192 ?_
      refine j_aload_n d_Mod_splits_195 rfl ?_
      refine mg_tokens f_Mod_145 d_Mod_splits_196 ?_
      refine ml_value d_Mod_splits_199 (by omega) (by omega) ?_
      rw [up_eq]
      refine z_ldc (w := 1000000) d_Mod_splits_200 k_Mod_158 (by decide) ?_
      refine z_icmp_le (t := 217) d_Mod_splits_202 (by decide) (by first | omega | exact hw _ | exact hx _ _ | assumption) (by first | omega | exact hw _ | exact hx _ _ | assumption) (fun h202 => ?_) (fun h202 => ?_)
      · refine z_bipush d_Mod_splits_217 (by decide) ?_
        refine j_aload_n d_Mod_splits_219 rfl ?_
        refine mg_value f_Mod_61 d_Mod_splits_220 ?_
        refine j_aload_n d_Mod_splits_223 rfl ?_
        refine mg_tokens f_Mod_145 d_Mod_splits_224 ?_
        refine ml_value d_Mod_splits_227 (by omega) (by omega) ?_
        rw [up_eq]
        refine z_imul d_Mod_splits_228 ?_
        refine j_aload_n d_Mod_splits_229 rfl ?_
        refine mg_tape f_Mod_49 d_Mod_splits_230 ?_
        refine j_iload d_Mod_splits_233 rfl ?_
        refine ml_tape d_Mod_splits_235 (by omega) (by omega) ?_
        refine z_iadd d_Mod_splits_236 ?_
        refine z_bipush d_Mod_splits_237 (by decide) ?_
        refine z_isub d_Mod_splits_239 ?_
        refine ms_value d_Mod_splits_240 (by omega) (by omega) ?_
        rw [up_up]
        refine z_iinc d_Mod_splits_241 rfl (by decide) ?_
        show SJ _ _ _ _ [_, _, _, _, _, _] _ _ _ _ _
        refine j_goto (t := 169) d_Mod_splits_244 (by decide) ?_
        first
        | (rw [if_pos (by omega)] at hR
           exact ih _ (by omega) _ _ rfl (by omega) (by omega) (by omega) (by omega) hR)
        | (rw [if_neg (by omega)] at hR
           exact ih _ (by omega) _ _ rfl (by omega) (by omega) (by omega) (by omega) hR)
      · refine j_aload_n d_Mod_splits_205 rfl ?_
        refine mg_value f_Mod_61 d_Mod_splits_206 ?_
        refine j_aload_n d_Mod_splits_209 rfl ?_
        refine mg_tokens f_Mod_145 d_Mod_splits_210 ?_
        refine ml_value d_Mod_splits_213 (by omega) (by omega) ?_
        rw [up_eq]
        refine j_goto (t := 240) d_Mod_splits_214 (by decide) ?_
        refine ms_value d_Mod_splits_240 (by omega) (by omega) ?_
        rw [up_up]
        refine z_iinc d_Mod_splits_241 rfl (by decide) ?_
        show SJ _ _ _ _ [_, _, _, _, _, _] _ _ _ _ _
        refine j_goto (t := 169) d_Mod_splits_244 (by decide) ?_
        first
        | (rw [if_pos (by omega)] at hR
           exact ih _ (by omega) _ _ rfl (by omega) (by omega) (by omega) (by omega) hR)
        | (rw [if_neg (by omega)] at hR
           exact ih _ (by omega) _ _ rfl (by omega) (by omega) (by omega) (by omega) hR)
    · refine z_if_eq (t := 247) d_Mod_splits_180 (by decide) (by first | omega | exact hw _ | exact hx _ _ | assumption) (fun _ => ?_) (fun h => absurd h (by decide))
      first
      | (exfalso; omega)
      | (rw [show (to_ - q).toNat = 0 by omega] at hR
         have hR2 : v = R := hR
         subst hR2
         refine SJ.mask [true, true, true, true, true, false] ?_
         show SJ _ _ _ _ [_, _, _, _, _, none] _ _ _ _ _
         exact hkk)
