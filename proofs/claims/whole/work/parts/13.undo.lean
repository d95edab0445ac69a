theorem lp_puts {g : Bool} {d : Nat} {Q : List xM → Option Value → Prop} {i0 i6 i8 i9 i10 i13 i14 i18 i19 i20 i21 i22 i23 i24 i25 i27 i28 i33 i42 i43 i44 i45 i46 i47 i48 i51 i52 : Int} {x1 x2 x3 x4 x5 x7 x11 x12 x15 x16 x17 x26 x29 x30 x31 x32 x34 x35 x36 x37 x38 x39 x40 x41 x49 x50 : Int → Int} {s p : Int} (p0 : 0 ≤ p) (p1 : p ≤ x2 0) (n1 : x2 0 ≤ 19) (hQ : Q (MM i0 i6 i8 i9 i10 i13 i14 i18 i19 i20 i21 i22 i23 i24 i25 i27 i28 i33 i42 i43 i44 i45 i46 i47 i48 i51 i52 x1 (putK x2 s p) x3 x4 x5 x7 x11 x12 x15 x16 x17 x26 x29 x30 x31 x32 x34 x35 x36 x37 x38 x39 x40 x41 x49 x50) none) : ∀ (nn : Nat) (q : Int), (q - p).toNat = nn → p ≤ q → q ≤ x2 0 → SJ g m_Mod_puts (d + 1) 5 [some (.ref 0), some (.int (ii s)), some (.int (ii p)), some (.int (ii q))] [] (MM i0 i6 i8 i9 i10 i13 i14 i18 i19 i20 i21 i22 i23 i24 i25 i27 i28 i33 i42 i43 i44 i45 i46 i47 i48 i51 i52 x1 (cpy x2 x2 (1 + q) (2 + q) (x2 0 - q)) x3 x4 x5 x7 x11 x12 x15 x16 x17 x26 x29 x30 x31 x32 x34 x35 x36 x37 x38 x39 x40 x41 x49 x50) 0 0 Q := by
  intro nn
  induction nn using Nat.strongRecOn with
  | ind nn ih =>
  intro q hn a1 a2
  refine j_iload_n d_Mod_puts_5 rfl ?_
  refine j_iload_n d_Mod_puts_6 rfl ?_
  refine z_icmp_le (t := 34) d_Mod_puts_7 (by decide) (by first | omega | exact hw _ | exact hx _ _ | assumption) (by first | omega | exact hw _ | exact hx _ _ | assumption) (fun h7 => ?_) (fun h7 => ?_)
  · have e : q = p := by omega
    subst e
    refine j_aload_n d_Mod_puts_34 rfl ?_
    refine mg_kept f_Mod_32 d_Mod_puts_35 ?_
    refine z_iconst d_Mod_puts_38 ?_
    refine j_iload_n d_Mod_puts_39 rfl ?_
    refine z_iadd d_Mod_puts_40 ?_
    refine j_iload_n d_Mod_puts_41 rfl ?_
    refine ms_kept d_Mod_puts_42 (by omega) (by omega) ?_
    refine j_aload_n d_Mod_puts_43 rfl ?_
    refine mg_kept f_Mod_32 d_Mod_puts_44 ?_
    refine z_iconst d_Mod_puts_47 ?_
    refine j_dup2 d_Mod_puts_48 rfl rfl ?_
    refine ml_kept d_Mod_puts_49 (by omega) (by omega) ?_
    rw [show up (cpy x2 x2 (1 + q) (2 + q) (x2 0 - q)) (1 + q) s 0 = x2 0 by rw [up_ne (by omega), cpy_lo (by omega)]]
    refine z_iconst d_Mod_puts_50 ?_
    refine z_iadd d_Mod_puts_51 ?_
    refine ms_kept d_Mod_puts_52 (by omega) (by omega) ?_
    exact j_return rfl d_Mod_puts_53 hQ
  · refine j_aload_n d_Mod_puts_10 rfl ?_
    refine mg_kept f_Mod_32 d_Mod_puts_11 ?_
    refine z_iconst d_Mod_puts_14 ?_
    refine j_iload_n d_Mod_puts_15 rfl ?_
    refine z_iadd d_Mod_puts_16 ?_
    refine j_aload_n d_Mod_puts_17 rfl ?_
    refine mg_kept f_Mod_32 d_Mod_puts_18 ?_
    refine z_iconst d_Mod_puts_21 ?_
    refine j_iload_n d_Mod_puts_22 rfl ?_
    refine z_iadd d_Mod_puts_23 ?_
    refine z_iconst d_Mod_puts_24 ?_
    refine z_isub d_Mod_puts_25 ?_
    refine ml_kept d_Mod_puts_26 (by omega) (by omega) ?_
    rw [show cpy x2 x2 (1 + q) (2 + q) (x2 0 - q) (1 + q - 1) = x2 q by rw [cpy_lo (by omega)]; congr 1; omega]
    refine ms_kept d_Mod_puts_27 (by omega) (by omega) ?_
    rw [cpy_d (a := q) (by omega) (by omega) (by omega) rfl rfl, show x2 0 - q + 1 = x2 0 - (q + -1) by omega, show cpy x2 x2 q (1 + q) (x2 0 - (q + -1)) = cpy x2 x2 (1 + (q + -1)) (2 + (q + -1)) (x2 0 - (q + -1)) by congr 1 <;> omega]
    refine z_iinc d_Mod_puts_28 rfl (by decide) ?_
    show SJ _ _ _ _ [_, _, _, _] _ _ _ _ _
    refine j_goto (t := 5) d_Mod_puts_31 (by decide) ?_
    exact ih _ (by omega) _ rfl (by omega) (by omega)
theorem t_Mod_puts {g : Bool} {d : Nat} {Q : List xM → Option Value → Prop} {i0 i6 i8 i9 i10 i13 i14 i18 i19 i20 i21 i22 i23 i24 i25 i27 i28 i33 i42 i43 i44 i45 i46 i47 i48 i51 i52 : Int} {x1 x2 x3 x4 x5 x7 x11 x12 x15 x16 x17 x26 x29 x30 x31 x32 x34 x35 x36 x37 x38 x39 x40 x41 x49 x50 : Int → Int} {s p : Int} (p0 : 0 ≤ p) (p1 : p ≤ x2 0) (n1 : x2 0 ≤ 19) (hQ : Q (MM i0 i6 i8 i9 i10 i13 i14 i18 i19 i20 i21 i22 i23 i24 i25 i27 i28 i33 i42 i43 i44 i45 i46 i47 i48 i51 i52 x1 (putK x2 s p) x3 x4 x5 x7 x11 x12 x15 x16 x17 x26 x29 x30 x31 x32 x34 x35 x36 x37 x38 x39 x40 x41 x49 x50) none) : CT g m_Mod_puts (d + 1) [.ref 0, .int (ii s), .int (ii p)] (MM i0 i6 i8 i9 i10 i13 i14 i18 i19 i20 i21 i22 i23 i24 i25 i27 i28 i33 i42 i43 i44 i45 i46 i47 i48 i51 i52 x1 x2 x3 x4 x5 x7 x11 x12 x15 x16 x17 x26 x29 x30 x31 x32 x34 x35 x36 x37 x38 x39 x40 x41 x49 x50) 0 0 Q := by
  refine CT.of (by decide) (Nat.le_of_ble_eq_true rfl) ?_
  show SJ _ _ _ _ [some (.ref 0), some (.int (ii s)), some (.int (ii p)), none] [] _ _ _ _
  refine j_aload_n d_Mod_puts_0 rfl ?_
  refine v_call0 d_Mod_puts_1 c_Mod_125 rfl ⟨_, rfl, rfl⟩ (Nat.le_of_ble_eq_true rfl) (t_Mod_length  ?_)
  refine j_istore_n d_Mod_puts_4 (by decide) ?_
  show SJ _ _ _ _ [_, _, _, _] _ _ _ _ _
  have q := lp_puts (d := d) (g := g) p0 p1 n1 hQ _ (x2 0) rfl (by omega) (by omega)
  rw [show x2 0 - x2 0 = 0 by omega, cpy_0] at q
  exact q
theorem lp_cuts {g : Bool} {d : Nat} {Q : List xM → Option Value → Prop} {i0 i6 i8 i9 i10 i13 i14 i18 i19 i20 i21 i22 i23 i24 i25 i27 i28 i33 i42 i43 i44 i45 i46 i47 i48 i51 i52 : Int} {x1 x2 x3 x4 x5 x7 x11 x12 x15 x16 x17 x26 x29 x30 x31 x32 x34 x35 x36 x37 x38 x39 x40 x41 x49 x50 : Int → Int} {p : Int} (p0 : 0 ≤ p) (p1 : p < x2 0) (n1 : x2 0 ≤ 20) (hQ : Q (MM i0 i6 i8 i9 i10 i13 i14 i18 i19 i20 i21 i22 i23 i24 i25 i27 i28 i33 i42 i43 i44 i45 i46 i47 i48 i51 i52 x1 (cutK x2 p) x3 x4 x5 x7 x11 x12 x15 x16 x17 x26 x29 x30 x31 x32 x34 x35 x36 x37 x38 x39 x40 x41 x49 x50) none) : ∀ (nn : Nat) (q : Int), (x2 0 - q).toNat = nn → p ≤ q → q ≤ x2 0 - 1 → SJ g m_Mod_cuts (d + 1) 12 [some (.ref 0), some (.int (ii p)), some (.int (ii q))] [] (MM i0 i6 i8 i9 i10 i13 i14 i18 i19 i20 i21 i22 i23 i24 i25 i27 i28 i33 i42 i43 i44 i45 i46 i47 i48 i51 i52 x1 (cpy (up x2 0 (x2 0 - 1)) (up x2 0 (x2 0 - 1)) (2 + p) (1 + p) (q - p)) x3 x4 x5 x7 x11 x12 x15 x16 x17 x26 x29 x30 x31 x32 x34 x35 x36 x37 x38 x39 x40 x41 x49 x50) 0 0 Q := by
  intro nn
  induction nn using Nat.strongRecOn with
  | ind nn ih =>
  intro q hn a1 a2
  refine j_iload_n d_Mod_cuts_12 rfl ?_
  refine j_aload_n d_Mod_cuts_13 rfl ?_
  refine v_call0 d_Mod_cuts_14 c_Mod_125 rfl ⟨_, rfl, rfl⟩ (Nat.le_of_ble_eq_true rfl) (t_Mod_length  ?_)
  rw [show cpy (up x2 0 (x2 0 - 1)) (up x2 0 (x2 0 - 1)) (2 + p) (1 + p) (q - p) 0 = x2 0 - 1 by rw [cpy_lo (by omega), up_eq]]
  refine z_icmp_ge (t := 44) d_Mod_cuts_17 (by decide) (by first | omega | exact hw _ | exact hx _ _ | assumption) (by first | omega | exact hw _ | exact hx _ _ | assumption) (fun h17 => ?_) (fun h17 => ?_)
  · have e : q = x2 0 - 1 := by omega
    refine j_aload_n d_Mod_cuts_44 rfl ?_
    refine mg_kept f_Mod_32 d_Mod_cuts_45 ?_
    refine z_iconst d_Mod_cuts_48 ?_
    refine j_aload_n d_Mod_cuts_49 rfl ?_
    refine v_call0 d_Mod_cuts_50 c_Mod_125 rfl ⟨_, rfl, rfl⟩ (Nat.le_of_ble_eq_true rfl) (t_Mod_length  ?_)
    rw [show cpy (up x2 0 (x2 0 - 1)) (up x2 0 (x2 0 - 1)) (2 + p) (1 + p) (q - p) 0 = x2 0 - 1 by rw [cpy_lo (by omega), up_eq]]
    refine z_iadd d_Mod_cuts_53 ?_
    refine z_iconst d_Mod_cuts_54 ?_
    refine ms_kept d_Mod_cuts_55 (by omega) (by omega) ?_
    rw [e]
    exact j_return rfl d_Mod_cuts_56 hQ
  · refine j_aload_n d_Mod_cuts_20 rfl ?_
    refine mg_kept f_Mod_32 d_Mod_cuts_21 ?_
    refine z_iconst d_Mod_cuts_24 ?_
    refine j_iload_n d_Mod_cuts_25 rfl ?_
    refine z_iadd d_Mod_cuts_26 ?_
    refine j_aload_n d_Mod_cuts_27 rfl ?_
    refine mg_kept f_Mod_32 d_Mod_cuts_28 ?_
    refine z_iconst d_Mod_cuts_31 ?_
    refine j_iload_n d_Mod_cuts_32 rfl ?_
    refine z_iadd d_Mod_cuts_33 ?_
    refine z_iconst d_Mod_cuts_34 ?_
    refine z_iadd d_Mod_cuts_35 ?_
    refine ml_kept d_Mod_cuts_36 (by omega) (by omega) ?_
    rw [show cpy (up x2 0 (x2 0 - 1)) (up x2 0 (x2 0 - 1)) (2 + p) (1 + p) (q - p) (1 + q + 1) = (up x2 0 (x2 0 - 1)) (2 + p + (q - p)) by rw [cpy_hi (by omega)]; congr 1; omega]
    refine ms_kept d_Mod_cuts_37 (by omega) (by omega) ?_
    rw [cpy_s (by omega) (by omega) rfl, show q - p + 1 = q + 1 - p by omega]
    refine z_iinc d_Mod_cuts_38 rfl (by decide) ?_
    show SJ _ _ _ _ [_, _, _] _ _ _ _ _
    refine j_goto (t := 12) d_Mod_cuts_41 (by decide) ?_
    exact ih _ (by omega) _ rfl (by omega) (by omega)
theorem t_Mod_cuts {g : Bool} {d : Nat} {Q : List xM → Option Value → Prop} {i0 i6 i8 i9 i10 i13 i14 i18 i19 i20 i21 i22 i23 i24 i25 i27 i28 i33 i42 i43 i44 i45 i46 i47 i48 i51 i52 : Int} {x1 x2 x3 x4 x5 x7 x11 x12 x15 x16 x17 x26 x29 x30 x31 x32 x34 x35 x36 x37 x38 x39 x40 x41 x49 x50 : Int → Int} {p : Int} (p0 : 0 ≤ p) (p1 : p < x2 0) (n1 : x2 0 ≤ 20) (hQ : Q (MM i0 i6 i8 i9 i10 i13 i14 i18 i19 i20 i21 i22 i23 i24 i25 i27 i28 i33 i42 i43 i44 i45 i46 i47 i48 i51 i52 x1 (cutK x2 p) x3 x4 x5 x7 x11 x12 x15 x16 x17 x26 x29 x30 x31 x32 x34 x35 x36 x37 x38 x39 x40 x41 x49 x50) none) : CT g m_Mod_cuts (d + 1) [.ref 0, .int (ii p)] (MM i0 i6 i8 i9 i10 i13 i14 i18 i19 i20 i21 i22 i23 i24 i25 i27 i28 i33 i42 i43 i44 i45 i46 i47 i48 i51 i52 x1 x2 x3 x4 x5 x7 x11 x12 x15 x16 x17 x26 x29 x30 x31 x32 x34 x35 x36 x37 x38 x39 x40 x41 x49 x50) 0 0 Q := by
  refine CT.of (by decide) (Nat.le_of_ble_eq_true rfl) ?_
  show SJ _ _ _ _ [some (.ref 0), some (.int (ii p)), none] [] _ _ _ _
  refine j_aload_n d_Mod_cuts_0 rfl ?_
  refine mg_kept f_Mod_32 d_Mod_cuts_1 ?_
  refine z_iconst d_Mod_cuts_4 ?_
  refine j_dup2 d_Mod_cuts_5 rfl rfl ?_
  refine ml_kept d_Mod_cuts_6 (by omega) (by omega) ?_
  refine z_iconst d_Mod_cuts_7 ?_
  refine z_isub d_Mod_cuts_8 ?_
  refine ms_kept d_Mod_cuts_9 (by omega) (by omega) ?_
  refine j_iload_n d_Mod_cuts_10 rfl ?_
  refine j_istore_n d_Mod_cuts_11 (by decide) ?_
  show SJ _ _ _ _ [_, _, _] _ _ _ _ _
  have q := lp_cuts (d := d) (g := g) p0 p1 n1 hQ _ p rfl (by omega) (by omega)
  rw [show p - p = 0 by omega, cpy_0] at q
  exact q
theorem lp_forgets {g : Bool} {d : Nat} {Q : List xM → Option Value → Prop} {i0 i6 i8 i9 i10 i13 i14 i18 i19 i20 i21 i22 i23 i24 i25 i27 i28 i33 i42 i43 i44 i45 i46 i47 i48 i51 i52 : Int} {x1 x2 x3 x4 x5 x7 x11 x12 x15 x16 x17 x26 x29 x30 x31 x32 x34 x35 x36 x37 x38 x39 x40 x41 x49 x50 : Int → Int} (hQ : Q (MM i0 i6 i8 i9 i10 i13 i14 i18 i19 i20 i21 i22 i23 i24 i25 i27 i28 (i33 - 1) i42 i43 i44 i45 i46 i47 i48 i51 i52 x1 x2 x3 x4 x5 x7 x11 x12 x15 x16 x17 x26 x29 x30 (cpy x31 x31 23 0 345) x32 x34 x35 x36 x37 x38 x39 x40 x41 x49 x50) none) : ∀ (nn : Nat) (k : Int), (345 - k).toNat = nn → 0 ≤ k → k ≤ 345 → SJ g m_Mod_forgetsEldest d 5 [some (.ref 0), some (.int (ii 23)), some (.int (ii k))] [] (MM i0 i6 i8 i9 i10 i13 i14 i18 i19 i20 i21 i22 i23 i24 i25 i27 i28 i33 i42 i43 i44 i45 i46 i47 i48 i51 i52 x1 x2 x3 x4 x5 x7 x11 x12 x15 x16 x17 x26 x29 x30 (cpy x31 x31 23 0 k) x32 x34 x35 x36 x37 x38 x39 x40 x41 x49 x50) 0 0 Q := by
  intro nn
  induction nn using Nat.strongRecOn with
  | ind nn ih =>
  intro k hn a1 a2
  refine j_iload_n d_Mod_forgetsEldest_5 rfl ?_
  refine z_bipush d_Mod_forgetsEldest_6 (by decide) ?_
  refine j_iload_n d_Mod_forgetsEldest_8 rfl ?_
  refine z_imul d_Mod_forgetsEldest_9 ?_
  refine z_icmp_ge (t := 33) d_Mod_forgetsEldest_10 (by decide) (by first | omega | exact hw _ | exact hx _ _ | assumption) (by first | omega | exact hw _ | exact hx _ _ | assumption) (fun h10 => ?_) (fun h10 => ?_)
  · have e : k = 345 := by omega
    subst e
    refine j_aload_n d_Mod_forgetsEldest_33 rfl ?_
    refine j_dup d_Mod_forgetsEldest_34 rfl ?_
    refine mg_undoMany f_Mod_11 d_Mod_forgetsEldest_35 ?_
    refine z_iconst d_Mod_forgetsEldest_38 ?_
    refine z_isub d_Mod_forgetsEldest_39 ?_
    refine mp_undoMany f_Mod_11 d_Mod_forgetsEldest_40 ?_
    exact j_return rfl d_Mod_forgetsEldest_43 hQ
  · refine j_aload_n d_Mod_forgetsEldest_13 rfl ?_
    refine mg_left0 f_Mod_76 d_Mod_forgetsEldest_14 ?_
    refine j_iload_n d_Mod_forgetsEldest_17 rfl ?_
    refine j_aload_n d_Mod_forgetsEldest_18 rfl ?_
    refine mg_left0 f_Mod_76 d_Mod_forgetsEldest_19 ?_
    refine j_iload_n d_Mod_forgetsEldest_22 rfl ?_
    refine j_iload_n d_Mod_forgetsEldest_23 rfl ?_
    refine z_iadd d_Mod_forgetsEldest_24 ?_
    refine ml_left0 d_Mod_forgetsEldest_25 (by omega) (by omega) ?_
    rw [show cpy x31 x31 23 0 k (k + 23) = x31 (23 + k) by rw [cpy_hi (by omega)]; congr 1; omega]
    refine ms_left0 d_Mod_forgetsEldest_26 (by omega) (by omega) ?_
    rw [cpy_s (by omega) (by omega) rfl]
    refine z_iinc d_Mod_forgetsEldest_27 rfl (by decide) ?_
    show SJ _ _ _ _ [_, _, _] _ _ _ _ _
    refine j_goto (t := 5) d_Mod_forgetsEldest_30 (by decide) ?_
    exact ih _ (by omega) _ rfl (by omega) (by omega)
theorem t_Mod_forgetsEldest {g : Bool} {d : Nat} {Q : List xM → Option Value → Prop} {i0 i6 i8 i9 i10 i13 i14 i18 i19 i20 i21 i22 i23 i24 i25 i27 i28 i33 i42 i43 i44 i45 i46 i47 i48 i51 i52 : Int} {x1 x2 x3 x4 x5 x7 x11 x12 x15 x16 x17 x26 x29 x30 x31 x32 x34 x35 x36 x37 x38 x39 x40 x41 x49 x50 : Int → Int} (hQ : Q (MM i0 i6 i8 i9 i10 i13 i14 i18 i19 i20 i21 i22 i23 i24 i25 i27 i28 (i33 - 1) i42 i43 i44 i45 i46 i47 i48 i51 i52 x1 x2 x3 x4 x5 x7 x11 x12 x15 x16 x17 x26 x29 x30 (cpy x31 x31 23 0 345) x32 x34 x35 x36 x37 x38 x39 x40 x41 x49 x50) none) : CT g m_Mod_forgetsEldest d [.ref 0] (MM i0 i6 i8 i9 i10 i13 i14 i18 i19 i20 i21 i22 i23 i24 i25 i27 i28 i33 i42 i43 i44 i45 i46 i47 i48 i51 i52 x1 x2 x3 x4 x5 x7 x11 x12 x15 x16 x17 x26 x29 x30 x31 x32 x34 x35 x36 x37 x38 x39 x40 x41 x49 x50) 0 0 Q := by
  refine CT.of (by decide) (Nat.le_of_ble_eq_true rfl) ?_
  show SJ _ _ _ _ [some (.ref 0), none, none] [] _ _ _ _
  refine z_bipush d_Mod_forgetsEldest_0 (by decide) ?_
  refine j_istore_n d_Mod_forgetsEldest_2 (by decide) ?_
  show SJ _ _ _ _ [_, _, _] _ _ _ _ _
  refine z_iconst d_Mod_forgetsEldest_3 ?_
  refine j_istore_n d_Mod_forgetsEldest_4 (by decide) ?_
  show SJ _ _ _ _ [_, _, _] _ _ _ _ _
  have q := lp_forgets (d := d) (g := g) hQ _ 0 rfl (by omega) (by omega)
  rw [cpy_0] at q
  exact q
theorem lp_keeps {g : Bool} {d : Nat} {Q : List xM → Option Value → Prop} {i0 i6 i8 i9 i10 i13 i14 i18 i19 i20 i21 i22 i23 i24 i25 i27 i28 i42 i43 i44 i45 i46 i47 i48 i51 i52 : Int} {x1 x2 x3 x4 x5 x7 x11 x12 x15 x16 x17 x26 x29 x30 x31 x32 x34 x35 x36 x37 x38 x39 x40 x41 x49 x50 : Int → Int} {what u : Int} (u0 : 0 ≤ u) (u1 : u ≤ 15) (hQ : Q (MM i0 i6 i8 i9 i10 i13 i14 i18 i19 i20 i21 i22 i23 i24 i25 i27 i28 (u + 1) i42 i43 i44 i45 i46 i47 i48 i51 i52 x1 x2 x3 x4 x5 x7 x11 x12 x15 x16 x17 x26 x29 x30 (up (cpy x2 x31 0 (23 * u) 22) (23 * u + 22) what) x32 x34 x35 x36 x37 x38 x39 x40 x41 x49 x50) none) : ∀ (nn : Nat) (k : Int), (22 - k).toNat = nn → 0 ≤ k → k ≤ 22 → SJ g m_Mod_keeps (d + 1) 18 [some (.ref 0), some (.int (ii what)), some (.int (ii 23)), some (.int (ii k))] [] (MM i0 i6 i8 i9 i10 i13 i14 i18 i19 i20 i21 i22 i23 i24 i25 i27 i28 u i42 i43 i44 i45 i46 i47 i48 i51 i52 x1 x2 x3 x4 x5 x7 x11 x12 x15 x16 x17 x26 x29 x30 (cpy x2 x31 0 (23 * u) k) x32 x34 x35 x36 x37 x38 x39 x40 x41 x49 x50) 0 0 Q := by
  intro nn
  induction nn using Nat.strongRecOn with
  | ind nn ih =>
  intro k hn a1 a2
  refine j_iload_n d_Mod_keeps_18 rfl ?_
  refine z_bipush d_Mod_keeps_19 (by decide) ?_
  refine z_icmp_ge (t := 49) d_Mod_keeps_21 (by decide) (by first | omega | exact hw _ | exact hx _ _ | assumption) (by first | omega | exact hw _ | exact hx _ _ | assumption) (fun h21 => ?_) (fun h21 => ?_)
  · have e : k = 22 := by omega
    subst e
    refine j_aload_n d_Mod_keeps_49 rfl ?_
    refine mg_left0 f_Mod_76 d_Mod_keeps_50 ?_
    refine j_iload_n d_Mod_keeps_53 rfl ?_
    refine j_aload_n d_Mod_keeps_54 rfl ?_
    refine mg_undoMany f_Mod_11 d_Mod_keeps_55 ?_
    refine z_imul d_Mod_keeps_58 ?_
    refine z_bipush d_Mod_keeps_59 (by decide) ?_
    refine z_iadd d_Mod_keeps_61 ?_
    refine j_iload_n d_Mod_keeps_62 rfl ?_
    refine ms_left0 d_Mod_keeps_63 (by omega) (by omega) ?_
    refine j_aload_n d_Mod_keeps_64 rfl ?_
    refine j_dup d_Mod_keeps_65 rfl ?_
    refine mg_undoMany f_Mod_11 d_Mod_keeps_66 ?_
    refine z_iconst d_Mod_keeps_69 ?_
    refine z_iadd d_Mod_keeps_70 ?_
    refine mp_undoMany f_Mod_11 d_Mod_keeps_71 ?_
    exact j_return rfl d_Mod_keeps_74 hQ
  · refine j_aload_n d_Mod_keeps_24 rfl ?_
    refine mg_left0 f_Mod_76 d_Mod_keeps_25 ?_
    refine j_iload_n d_Mod_keeps_28 rfl ?_
    refine j_aload_n d_Mod_keeps_29 rfl ?_
    refine mg_undoMany f_Mod_11 d_Mod_keeps_30 ?_
    refine z_imul d_Mod_keeps_33 ?_
    refine j_iload_n d_Mod_keeps_34 rfl ?_
    refine z_iadd d_Mod_keeps_35 ?_
    refine j_aload_n d_Mod_keeps_36 rfl ?_
    refine mg_kept f_Mod_32 d_Mod_keeps_37 ?_
    refine j_iload_n d_Mod_keeps_40 rfl ?_
    refine ml_kept d_Mod_keeps_41 (by omega) (by omega) ?_
    refine ms_left0 d_Mod_keeps_42 (by omega) (by omega) ?_
    rw [cpy_s (sp := 0) (by omega) (by omega) (by simp)]
    refine z_iinc d_Mod_keeps_43 rfl (by decide) ?_
    show SJ _ _ _ _ [_, _, _, _] _ _ _ _ _
    refine j_goto (t := 18) d_Mod_keeps_46 (by decide) ?_
    exact ih _ (by omega) _ rfl (by omega) (by omega)
theorem t_Mod_keeps {g : Bool} {d : Nat} {Q : List xM → Option Value → Prop} {i0 i6 i8 i9 i10 i13 i14 i18 i19 i20 i21 i22 i23 i24 i25 i27 i28 i33 i42 i43 i44 i45 i46 i47 i48 i51 i52 : Int} {x1 x2 x3 x4 x5 x7 x11 x12 x15 x16 x17 x26 x29 x30 x31 x32 x34 x35 x36 x37 x38 x39 x40 x41 x49 x50 : Int → Int} {what : Int} (u0 : 0 ≤ i33) (u1 : i33 ≤ 16) (hQ : Q (MM i0 i6 i8 i9 i10 i13 i14 i18 i19 i20 i21 i22 i23 i24 i25 i27 i28 (shU i33 + 1) i42 i43 i44 i45 i46 i47 i48 i51 i52 x1 x2 x3 x4 x5 x7 x11 x12 x15 x16 x17 x26 x29 x30 (kpL x2 x31 i33 what) x32 x34 x35 x36 x37 x38 x39 x40 x41 x49 x50) none) : CT g m_Mod_keeps (d + 1) [.ref 0, .int (ii what)] (MM i0 i6 i8 i9 i10 i13 i14 i18 i19 i20 i21 i22 i23 i24 i25 i27 i28 i33 i42 i43 i44 i45 i46 i47 i48 i51 i52 x1 x2 x3 x4 x5 x7 x11 x12 x15 x16 x17 x26 x29 x30 x31 x32 x34 x35 x36 x37 x38 x39 x40 x41 x49 x50) 0 0 Q := by
  refine CT.of (by decide) (Nat.le_of_ble_eq_true rfl) ?_
  show SJ _ _ _ _ [some (.ref 0), some (.int (ii what)), none, none] [] _ _ _ _
  refine z_bipush d_Mod_keeps_0 (by decide) ?_
  refine j_istore_n d_Mod_keeps_2 (by decide) ?_
  show SJ _ _ _ _ [_, _, _, _] _ _ _ _ _
  refine j_aload_n d_Mod_keeps_3 rfl ?_
  refine mg_undoMany f_Mod_11 d_Mod_keeps_4 ?_
  refine z_bipush d_Mod_keeps_7 (by decide) ?_
  refine z_icmp_ne (t := 16) d_Mod_keeps_9 (by decide) (by first | omega | exact hw _ | exact hx _ _ | assumption) (by first | omega | exact hw _ | exact hx _ _ | assumption) (fun h9 => ?_) (fun h9 => ?_)
  · refine z_iconst d_Mod_keeps_16 ?_
    refine j_istore_n d_Mod_keeps_17 (by decide) ?_
    show SJ _ _ _ _ [_, _, _, _] _ _ _ _ _
    first
    | (have hu : i33 = 16 := by omega
       have q := lp_keeps (d := d) (g := g) (u := 15) (x2 := x2) (x31 := cpy x31 x31 23 0 345) (by omega) (by omega) (by unfold kpL shL shU at hQ; rw [if_pos hu, if_pos hu] at hQ; exact hQ) _ 0 rfl (by omega) (by omega)
       rw [cpy_0] at q
       rw [show i33 - 1 = 15 by omega]
       exact q)
    | (have hu : ¬ i33 = 16 := by omega
       have q := lp_keeps (d := d) (g := g) (u := i33) (x2 := x2) (x31 := x31) (by omega) (by omega) (by unfold kpL shL shU at hQ; rw [if_neg hu, if_neg hu] at hQ; exact hQ) _ 0 rfl (by omega) (by omega)
       rw [cpy_0] at q
       exact q)
  · refine j_aload_n d_Mod_keeps_12 rfl ?_
    refine v_call0 d_Mod_keeps_13 c_Mod_351 rfl ⟨_, rfl, rfl⟩ (Nat.le_of_ble_eq_true rfl) (t_Mod_forgetsEldest  ?_)
    refine z_iconst d_Mod_keeps_16 ?_
    refine j_istore_n d_Mod_keeps_17 (by decide) ?_
    show SJ _ _ _ _ [_, _, _, _] _ _ _ _ _
    first
    | (have hu : i33 = 16 := by omega
       have q := lp_keeps (d := d) (g := g) (u := 15) (x2 := x2) (x31 := cpy x31 x31 23 0 345) (by omega) (by omega) (by unfold kpL shL shU at hQ; rw [if_pos hu, if_pos hu] at hQ; exact hQ) _ 0 rfl (by omega) (by omega)
       rw [cpy_0] at q
       rw [show i33 - 1 = 15 by omega]
       exact q)
    | (have hu : ¬ i33 = 16 := by omega
       have q := lp_keeps (d := d) (g := g) (u := i33) (x2 := x2) (x31 := x31) (by omega) (by omega) (by unfold kpL shL shU at hQ; rw [if_neg hu, if_neg hu] at hQ; exact hQ) _ 0 rfl (by omega) (by omega)
       rw [cpy_0] at q
       exact q)
theorem lp_undo {g : Bool} {d : Nat} {Q : List xM → Option Value → Prop} {i0 i6 i8 i9 i10 i13 i14 i18 i19 i20 i21 i22 i23 i24 i25 i27 i28 i42 i43 i44 i45 i46 i47 i48 i51 i52 : Int} {x1 x2 x3 x4 x5 x7 x11 x12 x15 x16 x17 x26 x29 x30 x31 x32 x34 x35 x36 x37 x38 x39 x40 x41 x49 x50 : Int → Int} {u : Int} (u0 : 0 ≤ u) (u1 : u ≤ 15) (hQ : Q (MM 0 i6 i8 i9 i10 i13 i14 i18 i19 i20 i21 i22 i23 i24 i25 i27 i28 u i42 i43 i44 i45 i46 i47 i48 i51 i52 x1 (cpy x31 x2 (23 * u) 0 22) x3 x4 x5 x7 x11 x12 x15 x16 x17 x26 x29 x30 x31 x32 x34 x35 x36 x37 x38 x39 x40 x41 x49 x50) (some (.int (ii ((x31 (23 * u + 22))))))) : ∀ (nn : Nat) (k : Int), (22 - k).toNat = nn → 0 ≤ k → k ≤ 22 → SJ g m_Mod_undo (d + 1) 34 [some (.ref 0), some (.int (ii (23 * u))), some (.int (ii k))] [] (MM i0 i6 i8 i9 i10 i13 i14 i18 i19 i20 i21 i22 i23 i24 i25 i27 i28 u i42 i43 i44 i45 i46 i47 i48 i51 i52 x1 (cpy x31 x2 (23 * u) 0 k) x3 x4 x5 x7 x11 x12 x15 x16 x17 x26 x29 x30 x31 x32 x34 x35 x36 x37 x38 x39 x40 x41 x49 x50) 0 0 Q := by
  intro nn
  induction nn using Nat.strongRecOn with
  | ind nn ih =>
  intro k hn a1 a2
  refine j_iload_n d_Mod_undo_34 rfl ?_
  refine z_bipush d_Mod_undo_35 (by decide) ?_
  refine z_icmp_ge (t := 60) d_Mod_undo_37 (by decide) (by first | omega | exact hw _ | exact hx _ _ | assumption) (by first | omega | exact hw _ | exact hx _ _ | assumption) (fun h37 => ?_) (fun h37 => ?_)
  · have e : k = 22 := by omega
    subst e
    refine j_aload_n d_Mod_undo_60 rfl ?_
    refine j_aload_n d_Mod_undo_61 rfl ?_
    refine mg_left0 f_Mod_76 d_Mod_undo_62 ?_
    refine j_iload_n d_Mod_undo_65 rfl ?_
    refine z_bipush d_Mod_undo_66 (by decide) ?_
    refine z_iadd d_Mod_undo_68 ?_
    refine ml_left0 d_Mod_undo_69 (by omega) (by omega) ?_
    refine v_call1 d_Mod_undo_70 c_Mod_14 rfl ⟨_, rfl, rfl⟩ (Nat.le_of_ble_eq_true rfl) (t_Mod_good  ?_)
    exact z_iret rfl d_Mod_undo_73 (by first | rfl | omega | simp_all) hQ
  · refine j_aload_n d_Mod_undo_40 rfl ?_
    refine mg_kept f_Mod_32 d_Mod_undo_41 ?_
    refine j_iload_n d_Mod_undo_44 rfl ?_
    refine j_aload_n d_Mod_undo_45 rfl ?_
    refine mg_left0 f_Mod_76 d_Mod_undo_46 ?_
    refine j_iload_n d_Mod_undo_49 rfl ?_
    refine j_iload_n d_Mod_undo_50 rfl ?_
    refine z_iadd d_Mod_undo_51 ?_
    refine ml_left0 d_Mod_undo_52 (by omega) (by omega) ?_
    refine ms_kept d_Mod_undo_53 (by omega) (by omega) ?_
    rw [cpy_s (dp := 0) (by omega) (by simp) rfl]
    refine z_iinc d_Mod_undo_54 rfl (by decide) ?_
    show SJ _ _ _ _ [_, _, _] _ _ _ _ _
    refine j_goto (t := 34) d_Mod_undo_57 (by decide) ?_
    exact ih _ (by omega) _ rfl (by omega) (by omega)
theorem t_Mod_undo {g : Bool} {d : Nat} {Q : List xM → Option Value → Prop} {i0 i6 i8 i9 i10 i13 i14 i18 i19 i20 i21 i22 i23 i24 i25 i27 i28 i33 i42 i43 i44 i45 i46 i47 i48 i51 i52 : Int} {x1 x2 x3 x4 x5 x7 x11 x12 x15 x16 x17 x26 x29 x30 x31 x32 x34 x35 x36 x37 x38 x39 x40 x41 x49 x50 : Int → Int} (u0 : 0 ≤ i33) (u1 : i33 ≤ 16) (hf : i33 = 0 → Q (MM (-3) i6 i8 i9 i10 i13 i14 i18 i19 i20 i21 i22 i23 i24 i25 i27 i28 i33 i42 i43 i44 i45 i46 i47 i48 i51 i52 (up x1 (0 - (-3)) (x1 (0 - (-3)) + 1)) x2 x3 x4 x5 x7 x11 x12 x15 x16 x17 x26 x29 x30 x31 x32 x34 x35 x36 x37 x38 x39 x40 x41 x49 x50) (some (.int (ii (-3))))) (ht : i33 ≠ 0 → Q (MM 0 i6 i8 i9 i10 i13 i14 i18 i19 i20 i21 i22 i23 i24 i25 i27 i28 (i33 - 1) i42 i43 i44 i45 i46 i47 i48 i51 i52 x1 (cpy x31 x2 (23 * (i33 - 1)) 0 22) x3 x4 x5 x7 x11 x12 x15 x16 x17 x26 x29 x30 x31 x32 x34 x35 x36 x37 x38 x39 x40 x41 x49 x50) (some (.int (ii (x31 (23 * (i33 - 1) + 22)))))) : CT g m_Mod_undo (d + 1) [.ref 0] (MM i0 i6 i8 i9 i10 i13 i14 i18 i19 i20 i21 i22 i23 i24 i25 i27 i28 i33 i42 i43 i44 i45 i46 i47 i48 i51 i52 x1 x2 x3 x4 x5 x7 x11 x12 x15 x16 x17 x26 x29 x30 x31 x32 x34 x35 x36 x37 x38 x39 x40 x41 x49 x50) 0 0 Q := by
  refine CT.of (by decide) (Nat.le_of_ble_eq_true rfl) ?_
  show SJ _ _ _ _ [some (.ref 0), none, none] [] _ _ _ _
  refine j_aload_n d_Mod_undo_0 rfl ?_
  refine mg_undoMany f_Mod_11 d_Mod_undo_1 ?_
  refine z_if_ne (t := 14) d_Mod_undo_4 (by decide) (by first | omega | exact hw _ | exact hx _ _ | assumption) (fun h4 => ?_) (fun h4 => ?_)
  · refine j_aload_n d_Mod_undo_14 rfl ?_
    refine j_dup d_Mod_undo_15 rfl ?_
    refine mg_undoMany f_Mod_11 d_Mod_undo_16 ?_
    refine z_iconst d_Mod_undo_19 ?_
    refine z_isub d_Mod_undo_20 ?_
    refine mp_undoMany f_Mod_11 d_Mod_undo_21 ?_
    refine z_bipush d_Mod_undo_24 (by decide) ?_
    refine j_aload_n d_Mod_undo_26 rfl ?_
    refine mg_undoMany f_Mod_11 d_Mod_undo_27 ?_
    refine z_imul d_Mod_undo_30 ?_
    refine j_istore_n d_Mod_undo_31 (by decide) ?_
    show SJ _ _ _ _ [_, _, _] _ _ _ _ _
    refine z_iconst d_Mod_undo_32 ?_
    refine j_istore_n d_Mod_undo_33 (by decide) ?_
    show SJ _ _ _ _ [_, _, _] _ _ _ _ _
    have q := lp_undo (d := d) (g := g) (i0 := i0) (u := i33 - 1) (by omega) (by omega) (ht (by omega)) _ 0 rfl (by omega) (by omega)
    rw [cpy_0] at q
    exact q
  · refine j_aload_n d_Mod_undo_7 rfl ?_
    refine z_bipush d_Mod_undo_8 (by decide) ?_
    refine v_call1 d_Mod_undo_10 c_Mod_119 rfl ⟨_, rfl, rfl⟩ (Nat.le_of_ble_eq_true rfl) (t_Mod_refuses (by omega) (by omega) ?_)
    exact z_iret rfl d_Mod_undo_13 (by first | rfl | omega | simp_all) (hf (by omega))
theorem t_Mod_isLaw {g : Bool} {d : Nat} {Q : List xM → Option Value → Prop} {i0 i6 i8 i9 i10 i13 i14 i18 i19 i20 i21 i22 i23 i24 i25 i27 i28 i33 i42 i43 i44 i45 i46 i47 i48 i51 i52 : Int} {x1 x2 x3 x4 x5 x7 x11 x12 x15 x16 x17 x26 x29 x30 x31 x32 x34 x35 x36 x37 x38 x39 x40 x41 x49 x50 : Int → Int} {w : Int} (r1 : R32 w) (t0 : 0 ≤ x2 24) (t1 : x2 24 ≤ 6) (ht : -1 ≤ w ∧ w < x2 24 → Q (MM i0 i6 i8 i9 i10 i13 i14 i18 i19 i20 i21 i22 i23 i24 i25 i27 i28 i33 i42 i43 i44 i45 i46 i47 i48 i51 i52 x1 x2 x3 x4 x5 x7 x11 x12 x15 x16 x17 x26 x29 x30 x31 x32 x34 x35 x36 x37 x38 x39 x40 x41 x49 x50) (some (.int (ii 1)))) (hf : ¬ (-1 ≤ w ∧ w < x2 24) → Q (MM i0 i6 i8 i9 i10 i13 i14 i18 i19 i20 i21 i22 i23 i24 i25 i27 i28 i33 i42 i43 i44 i45 i46 i47 i48 i51 i52 x1 x2 x3 x4 x5 x7 x11 x12 x15 x16 x17 x26 x29 x30 x31 x32 x34 x35 x36 x37 x38 x39 x40 x41 x49 x50) (some (.int (ii 0)))) : CT g m_Mod_isLaw (d + 1) [.ref 0, .int (ii w)] (MM i0 i6 i8 i9 i10 i13 i14 i18 i19 i20 i21 i22 i23 i24 i25 i27 i28 i33 i42 i43 i44 i45 i46 i47 i48 i51 i52 x1 x2 x3 x4 x5 x7 x11 x12 x15 x16 x17 x26 x29 x30 x31 x32 x34 x35 x36 x37 x38 x39 x40 x41 x49 x50) 0 0 Q := by
  refine CT.of (by decide) (Nat.le_of_ble_eq_true rfl) ?_
  show SJ _ _ _ _ [some (.ref 0), some (.int (ii w))] [] _ _ _ _
  refine j_iload_n d_Mod_isLaw_0 rfl ?_
  refine z_iconst d_Mod_isLaw_1 ?_
  refine j_aload_n d_Mod_isLaw_2 rfl ?_
  refine mg_kept f_Mod_32 d_Mod_isLaw_3 ?_
  refine z_bipush d_Mod_isLaw_6 (by decide) ?_
  refine ml_kept d_Mod_isLaw_8 (by omega) (by omega) ?_
  refine z_iconst d_Mod_isLaw_9 ?_
  refine z_isub d_Mod_isLaw_10 ?_
  refine s_call3 d_Mod_isLaw_11 c_Mod_18 (Nat.le_of_ble_eq_true rfl) (t_Mod_lies (by first | omega | exact hw _ | exact hx _ _ | assumption) (by first | omega | exact hw _ | exact hx _ _ | assumption) (by first | omega | exact hw _ | exact hx _ _ | assumption) (fun h11 => ?_) (fun h11 => ?_))
  · exact z_zreturn rfl (Or.inr rfl) d_Mod_isLaw_14 (ht (by first | omega | simp_all))
  · exact z_zreturn rfl (Or.inl rfl) d_Mod_isLaw_14 (hf (by first | omega | simp_all))
theorem t_Mod_force {g : Bool} {d : Nat} {Q : List xM → Option Value → Prop} {i0 i6 i8 i9 i10 i13 i14 i18 i19 i20 i21 i22 i23 i24 i25 i27 i28 i33 i42 i43 i44 i45 i46 i47 i48 i51 i52 : Int} {x1 x2 x3 x4 x5 x7 x11 x12 x15 x16 x17 x26 x29 x30 x31 x32 x34 x35 x36 x37 x38 x39 x40 x41 x49 x50 : Int → Int} {w : Int} (r1 : R32 w) (t0 : 0 ≤ x2 24) (t1 : x2 24 ≤ 6) (ht : -1 ≤ w ∧ w < x2 24 → Q (MM 0 i6 i8 i9 i10 i13 i14 i18 i19 i20 i21 i22 i23 i24 i25 i27 i28 i33 i42 i43 i44 i45 i46 i47 i48 i51 i52 x1 (up x2 25 w) x3 x4 x5 x7 x11 x12 x15 x16 x17 x26 x29 x30 x31 x32 x34 x35 x36 x37 x38 x39 x40 x41 x49 x50) (some (.int (ii (x2 25))))) (hf : ¬ (-1 ≤ w ∧ w < x2 24) → Q (MM (-2) i6 i8 i9 i10 i13 i14 i18 i19 i20 i21 i22 i23 i24 i25 i27 i28 i33 i42 i43 i44 i45 i46 i47 i48 i51 i52 (up x1 (0 - (-2)) (x1 (0 - (-2)) + 1)) x2 x3 x4 x5 x7 x11 x12 x15 x16 x17 x26 x29 x30 x31 x32 x34 x35 x36 x37 x38 x39 x40 x41 x49 x50) (some (.int (ii (-2))))) : CT g m_Mod_force (d + 2) [.ref 0, .int (ii w)] (MM i0 i6 i8 i9 i10 i13 i14 i18 i19 i20 i21 i22 i23 i24 i25 i27 i28 i33 i42 i43 i44 i45 i46 i47 i48 i51 i52 x1 x2 x3 x4 x5 x7 x11 x12 x15 x16 x17 x26 x29 x30 x31 x32 x34 x35 x36 x37 x38 x39 x40 x41 x49 x50) 0 0 Q := by
  refine CT.of (by decide) (Nat.le_of_ble_eq_true rfl) ?_
  show SJ _ _ _ _ [some (.ref 0), some (.int (ii w)), none] [] _ _ _ _
  refine j_aload_n d_Mod_force_0 rfl ?_
  refine j_iload_n d_Mod_force_1 rfl ?_
  refine v_call1 d_Mod_force_2 c_Mod_243 rfl ⟨_, rfl, rfl⟩ (Nat.le_of_ble_eq_true rfl) (t_Mod_isLaw (by first | omega | exact hw _ | exact hx _ _ | assumption) (by omega) (by omega) (fun h2 => ?_) (fun h2 => ?_))
  · refine z_if_ne (t := 15) d_Mod_force_5 (by decide) (by first | omega | exact hw _ | exact hx _ _ | assumption) (fun _ => ?_) (fun h => absurd h (by decide))
    refine j_aload_n d_Mod_force_15 rfl ?_
    refine mg_kept f_Mod_32 d_Mod_force_16 ?_
    refine z_bipush d_Mod_force_19 (by decide) ?_
    refine ml_kept d_Mod_force_21 (by omega) (by omega) ?_
    refine j_istore_n d_Mod_force_22 (by decide) ?_
    show SJ _ _ _ _ [_, _, _] _ _ _ _ _
    refine j_aload_n d_Mod_force_23 rfl ?_
    refine mg_kept f_Mod_32 d_Mod_force_24 ?_
    refine z_bipush d_Mod_force_27 (by decide) ?_
    refine j_iload_n d_Mod_force_29 rfl ?_
    refine ms_kept d_Mod_force_30 (by omega) (by omega) ?_
    refine j_aload_n d_Mod_force_31 rfl ?_
    refine j_iload_n d_Mod_force_32 rfl ?_
    refine v_call1 d_Mod_force_33 c_Mod_14 rfl ⟨_, rfl, rfl⟩ (Nat.le_of_ble_eq_true rfl) (t_Mod_good  ?_)
    exact z_iret rfl d_Mod_force_36 (by first | rfl | omega | simp_all) (ht (by omega))
  · refine z_if_ne (t := 15) d_Mod_force_5 (by decide) (by first | omega | exact hw _ | exact hx _ _ | assumption) (fun h => absurd h (by decide)) (fun _ => ?_)
    refine j_aload_n d_Mod_force_8 rfl ?_
    refine z_bipush d_Mod_force_9 (by decide) ?_
    refine v_call1 d_Mod_force_11 c_Mod_119 rfl ⟨_, rfl, rfl⟩ (Nat.le_of_ble_eq_true rfl) (t_Mod_refuses (by omega) (by omega) ?_)
    exact z_iret rfl d_Mod_force_14 (by first | rfl | omega | simp_all) (hf (by omega))
theorem t_Mod_count {g : Bool} {d : Nat} {Q : List xM → Option Value → Prop} {i0 i6 i8 i9 i10 i13 i14 i18 i19 i20 i21 i22 i23 i24 i25 i27 i28 i33 i42 i43 i44 i45 i46 i47 i48 i51 i52 : Int} {x1 x2 x3 x4 x5 x7 x11 x12 x15 x16 x17 x26 x29 x30 x31 x32 x34 x35 x36 x37 x38 x39 x40 x41 x49 x50 : Int → Int} {what : Int} (r1 : R32 what) (hn0 : 0 ≤ x2 0) (hn1 : x2 0 ≤ 20) (hs : ∀ j, 0 ≤ j → j < x2 0 → 0 ≤ x2 (1 + j) ∧ x2 (1 + j) ≤ 11) (h1 : what = 1 → Q (MM i0 i6 i8 i9 i10 i13 i14 i18 i19 i20 i21 i22 i23 i24 i25 i27 i28 i33 i42 i43 i44 i45 i46 i47 i48 i51 i52 x1 x2 x3 x4 x5 x7 x11 x12 x15 x16 x17 x26 (prR x2 0 (x2 0) x29 x30).2.2.1 (prR x2 0 (x2 0) x29 x30).2.2.2 x31 x32 x34 x35 x36 x37 x38 x39 x40 x41 x49 x50) (some (.int (ii ((prR x2 0 (x2 0) x29 x30).2.1 + (prR x2 0 (x2 0) x29 x30).1))))) (hQ : what ≠ 1 → Q (MM i0 i6 i8 i9 i10 i13 i14 i18 i19 i20 i21 i22 i23 i24 i25 i27 i28 i33 i42 i43 i44 i45 i46 i47 i48 i51 i52 x1 x2 x3 x4 x5 x7 x11 x12 x15 x16 x17 x26 x29 x30 x31 x32 x34 x35 x36 x37 x38 x39 x40 x41 x49 x50) (some (.int (ii (if what = 0 then x2 0 else if what = 2 then x2 24 else if what = 3 then i33 else if what = 4 then i13 else if 5 ≤ what ∧ what ≤ 7 then x1 (what - 4) else if what = 8 then x1 5 else if what = 9 then x1 6 else if what = 10 then x2 25 else if 11 ≤ what ∧ what ≤ 13 then x2 (10 + what) else -1))))) : CT g m_Mod_count (d + 4) [.ref 0, .int (ii what)] (MM i0 i6 i8 i9 i10 i13 i14 i18 i19 i20 i21 i22 i23 i24 i25 i27 i28 i33 i42 i43 i44 i45 i46 i47 i48 i51 i52 x1 x2 x3 x4 x5 x7 x11 x12 x15 x16 x17 x26 x29 x30 x31 x32 x34 x35 x36 x37 x38 x39 x40 x41 x49 x50) 0 0 Q := by
  refine CT.of (by decide) (Nat.le_of_ble_eq_true rfl) ?_
  show SJ _ _ _ _ [some (.ref 0), some (.int (ii what))] [] _ _ _ _
  refine j_iload_n d_Mod_count_0 rfl ?_
  refine z_case (0) (fun h1_0 => ?_) (fun h1_0 => ?_)
  · refine z_tabIn (t := 72) (o := 71) d_Mod_count_1 (by first | omega | exact hw _ | exact hx _ _ | assumption) (by omega) (by omega) (by rw [h1_0]; rfl) (by decide) ?_
    refine j_aload_n d_Mod_count_72 rfl ?_
    refine v_call0 d_Mod_count_73 c_Mod_125 rfl ⟨_, rfl, rfl⟩ (Nat.le_of_ble_eq_true rfl) (t_Mod_length  ?_)
    exact z_iret rfl d_Mod_count_76 (by (repeat rw [if_neg (by omega)]); (try rw [if_pos (by omega)]); (try (congr 1; omega))) (hQ (by omega))
  refine z_case (1) (fun h1_1 => ?_) (fun h1_1 => ?_)
  · refine z_tabIn (t := 77) (o := 76) d_Mod_count_1 (by first | omega | exact hw _ | exact hx _ _ | assumption) (by omega) (by omega) (by rw [h1_1]; rfl) (by decide) ?_
    refine j_aload_n d_Mod_count_77 rfl ?_
    refine v_call0 d_Mod_count_78 c_Mod_294 rfl ⟨_, rfl, rfl⟩ (Nat.le_of_ble_eq_true rfl) (t_Mod_looseMany hn0 hn1 hs ?_)
    exact z_iret rfl d_Mod_count_81 rfl (h1 (by omega))
  refine z_case (2) (fun h1_2 => ?_) (fun h1_2 => ?_)
  · refine z_tabIn (t := 82) (o := 81) d_Mod_count_1 (by first | omega | exact hw _ | exact hx _ _ | assumption) (by omega) (by omega) (by rw [h1_2]; rfl) (by decide) ?_
    refine j_aload_n d_Mod_count_82 rfl ?_
    refine mg_kept f_Mod_32 d_Mod_count_83 ?_
    refine z_bipush d_Mod_count_86 (by decide) ?_
    refine ml_kept d_Mod_count_88 (by omega) (by omega) ?_
    exact z_iret rfl d_Mod_count_89 (by (repeat rw [if_neg (by omega)]); (try rw [if_pos (by omega)]); (try (congr 1; omega))) (hQ (by omega))
  refine z_case (3) (fun h1_3 => ?_) (fun h1_3 => ?_)
  · refine z_tabIn (t := 90) (o := 89) d_Mod_count_1 (by first | omega | exact hw _ | exact hx _ _ | assumption) (by omega) (by omega) (by rw [h1_3]; rfl) (by decide) ?_
    refine j_aload_n d_Mod_count_90 rfl ?_
    refine mg_undoMany f_Mod_11 d_Mod_count_91 ?_
    exact z_iret rfl d_Mod_count_94 (by (repeat rw [if_neg (by omega)]); (try rw [if_pos (by omega)]); (try (congr 1; omega))) (hQ (by omega))
  refine z_case (4) (fun h1_4 => ?_) (fun h1_4 => ?_)
  · refine z_tabIn (t := 95) (o := 94) d_Mod_count_1 (by first | omega | exact hw _ | exact hx _ _ | assumption) (by omega) (by omega) (by rw [h1_4]; rfl) (by decide) ?_
    refine j_aload_n d_Mod_count_95 rfl ?_
    refine mg_taped f_Mod_136 d_Mod_count_96 ?_
    exact z_iret rfl d_Mod_count_99 (by (repeat rw [if_neg (by omega)]); (try rw [if_pos (by omega)]); (try (congr 1; omega))) (hQ (by omega))
  refine z_case (5) (fun h1_5 => ?_) (fun h1_5 => ?_)
  · refine z_tabIn (t := 100) (o := 99) d_Mod_count_1 (by first | omega | exact hw _ | exact hx _ _ | assumption) (by omega) (by omega) (by rw [h1_5]; rfl) (by decide) ?_
    refine j_aload_n d_Mod_count_100 rfl ?_
    refine mg_refused f_Mod_7 d_Mod_count_101 ?_
    refine j_iload_n d_Mod_count_104 rfl ?_
    refine z_iconst d_Mod_count_105 ?_
    refine z_isub d_Mod_count_106 ?_
    refine ml_refused d_Mod_count_107 (by omega) (by omega) ?_
    exact z_iret rfl d_Mod_count_108 (by (repeat rw [if_neg (by omega)]); (try rw [if_pos (by omega)]); (try (congr 1; omega))) (hQ (by omega))
  refine z_case (6) (fun h1_6 => ?_) (fun h1_6 => ?_)
  · refine z_tabIn (t := 100) (o := 99) d_Mod_count_1 (by first | omega | exact hw _ | exact hx _ _ | assumption) (by omega) (by omega) (by rw [h1_6]; rfl) (by decide) ?_
    refine j_aload_n d_Mod_count_100 rfl ?_
    refine mg_refused f_Mod_7 d_Mod_count_101 ?_
    refine j_iload_n d_Mod_count_104 rfl ?_
    refine z_iconst d_Mod_count_105 ?_
    refine z_isub d_Mod_count_106 ?_
    refine ml_refused d_Mod_count_107 (by omega) (by omega) ?_
    exact z_iret rfl d_Mod_count_108 (by (repeat rw [if_neg (by omega)]); (try rw [if_pos (by omega)]); (try (congr 1; omega))) (hQ (by omega))
  refine z_case (7) (fun h1_7 => ?_) (fun h1_7 => ?_)
  · refine z_tabIn (t := 100) (o := 99) d_Mod_count_1 (by first | omega | exact hw _ | exact hx _ _ | assumption) (by omega) (by omega) (by rw [h1_7]; rfl) (by decide) ?_
    refine j_aload_n d_Mod_count_100 rfl ?_
    refine mg_refused f_Mod_7 d_Mod_count_101 ?_
    refine j_iload_n d_Mod_count_104 rfl ?_
    refine z_iconst d_Mod_count_105 ?_
    refine z_isub d_Mod_count_106 ?_
    refine ml_refused d_Mod_count_107 (by omega) (by omega) ?_
    exact z_iret rfl d_Mod_count_108 (by (repeat rw [if_neg (by omega)]); (try rw [if_pos (by omega)]); (try (congr 1; omega))) (hQ (by omega))
  refine z_case (8) (fun h1_8 => ?_) (fun h1_8 => ?_)
  · refine z_tabIn (t := 109) (o := 108) d_Mod_count_1 (by first | omega | exact hw _ | exact hx _ _ | assumption) (by omega) (by omega) (by rw [h1_8]; rfl) (by decide) ?_
    refine j_aload_n d_Mod_count_109 rfl ?_
    refine mg_refused f_Mod_7 d_Mod_count_110 ?_
    refine z_iconst d_Mod_count_113 ?_
    refine ml_refused d_Mod_count_114 (by omega) (by omega) ?_
    exact z_iret rfl d_Mod_count_115 (by (repeat rw [if_neg (by omega)]); (try rw [if_pos (by omega)]); (try (congr 1; omega))) (hQ (by omega))
  refine z_case (9) (fun h1_9 => ?_) (fun h1_9 => ?_)
  · refine z_tabIn (t := 116) (o := 115) d_Mod_count_1 (by first | omega | exact hw _ | exact hx _ _ | assumption) (by omega) (by omega) (by rw [h1_9]; rfl) (by decide) ?_
    refine j_aload_n d_Mod_count_116 rfl ?_
    refine mg_refused f_Mod_7 d_Mod_count_117 ?_
    refine z_bipush d_Mod_count_120 (by decide) ?_
    refine ml_refused d_Mod_count_122 (by omega) (by omega) ?_
    exact z_iret rfl d_Mod_count_123 (by (repeat rw [if_neg (by omega)]); (try rw [if_pos (by omega)]); (try (congr 1; omega))) (hQ (by omega))
  refine z_case (10) (fun h1_10 => ?_) (fun h1_10 => ?_)
  · refine z_tabIn (t := 124) (o := 123) d_Mod_count_1 (by first | omega | exact hw _ | exact hx _ _ | assumption) (by omega) (by omega) (by rw [h1_10]; rfl) (by decide) ?_
    refine j_aload_n d_Mod_count_124 rfl ?_
    refine mg_kept f_Mod_32 d_Mod_count_125 ?_
    refine z_bipush d_Mod_count_128 (by decide) ?_
    refine ml_kept d_Mod_count_130 (by omega) (by omega) ?_
    exact z_iret rfl d_Mod_count_131 (by (repeat rw [if_neg (by omega)]); (try rw [if_pos (by omega)]); (try (congr 1; omega))) (hQ (by omega))
  refine z_case (11) (fun h1_11 => ?_) (fun h1_11 => ?_)
  · refine z_tabIn (t := 132) (o := 131) d_Mod_count_1 (by first | omega | exact hw _ | exact hx _ _ | assumption) (by omega) (by omega) (by rw [h1_11]; rfl) (by decide) ?_
    refine j_aload_n d_Mod_count_132 rfl ?_
    refine mg_kept f_Mod_32 d_Mod_count_133 ?_
    refine j_iload_n d_Mod_count_136 rfl ?_
    refine z_bipush d_Mod_count_137 (by decide) ?_
    refine z_isub d_Mod_count_139 ?_
    refine s_call1 d_Mod_count_140 c_Mod_133 (Nat.le_of_ble_eq_true rfl) (t_Mod_termAt (by omega) (by omega) ?_)
    refine ml_kept d_Mod_count_143 (by omega) (by omega) ?_
    exact z_iret rfl d_Mod_count_144 (by (repeat rw [if_neg (by omega)]); (try rw [if_pos (by omega)]); (try (congr 1; omega))) (hQ (by omega))
  refine z_case (12) (fun h1_12 => ?_) (fun h1_12 => ?_)
  · refine z_tabIn (t := 132) (o := 131) d_Mod_count_1 (by first | omega | exact hw _ | exact hx _ _ | assumption) (by omega) (by omega) (by rw [h1_12]; rfl) (by decide) ?_
    refine j_aload_n d_Mod_count_132 rfl ?_
    refine mg_kept f_Mod_32 d_Mod_count_133 ?_
    refine j_iload_n d_Mod_count_136 rfl ?_
    refine z_bipush d_Mod_count_137 (by decide) ?_
    refine z_isub d_Mod_count_139 ?_
    refine s_call1 d_Mod_count_140 c_Mod_133 (Nat.le_of_ble_eq_true rfl) (t_Mod_termAt (by omega) (by omega) ?_)
    refine ml_kept d_Mod_count_143 (by omega) (by omega) ?_
    exact z_iret rfl d_Mod_count_144 (by (repeat rw [if_neg (by omega)]); (try rw [if_pos (by omega)]); (try (congr 1; omega))) (hQ (by omega))
  refine z_case (13) (fun h1_13 => ?_) (fun h1_13 => ?_)
  · refine z_tabIn (t := 132) (o := 131) d_Mod_count_1 (by first | omega | exact hw _ | exact hx _ _ | assumption) (by omega) (by omega) (by rw [h1_13]; rfl) (by decide) ?_
    refine j_aload_n d_Mod_count_132 rfl ?_
    refine mg_kept f_Mod_32 d_Mod_count_133 ?_
    refine j_iload_n d_Mod_count_136 rfl ?_
    refine z_bipush d_Mod_count_137 (by decide) ?_
    refine z_isub d_Mod_count_139 ?_
    refine s_call1 d_Mod_count_140 c_Mod_133 (Nat.le_of_ble_eq_true rfl) (t_Mod_termAt (by omega) (by omega) ?_)
    refine ml_kept d_Mod_count_143 (by omega) (by omega) ?_
    exact z_iret rfl d_Mod_count_144 (by (repeat rw [if_neg (by omega)]); (try rw [if_pos (by omega)]); (try (congr 1; omega))) (hQ (by omega))
  refine z_tabOut (t := 145) d_Mod_count_1 (by first | omega | exact hw _ | exact hx _ _ | assumption) (by omega) (by decide) ?_
  refine z_iconst d_Mod_count_145 ?_
  exact z_iret rfl d_Mod_count_146 (by (repeat rw [if_neg (by omega)]); (try rw [if_pos (by omega)]); (try (congr 1; omega))) (hQ (by omega))
theorem t_Mod_drawn {g : Bool} {d : Nat} {Q : List xM → Option Value → Prop} {i0 i6 i8 i9 i10 i13 i14 i18 i19 i20 i21 i22 i23 i24 i25 i27 i28 i33 i42 i43 i44 i45 i46 i47 i48 i51 i52 : Int} {x1 x2 x3 x4 x5 x7 x11 x12 x15 x16 x17 x26 x29 x30 x31 x32 x34 x35 x36 x37 x38 x39 x40 x41 x49 x50 : Int → Int} {what : Int} (r1 : R32 what) (r2 : R32 i51) (d0 : 0 ≤ x50 0) (d1 : x50 0 ≤ 20) (hQ : Q (MM i0 i6 i8 i9 i10 i13 i14 i18 i19 i20 i21 i22 i23 i24 i25 i27 i28 i33 i42 i43 i44 i45 i46 i47 i48 i51 i52 x1 x2 x3 x4 x5 x7 x11 x12 x15 x16 x17 x26 x29 x30 x31 x32 x34 x35 x36 x37 x38 x39 x40 x41 x49 x50) (some (.int (ii ((if i51 = -1 then -1 else if what = 0 then x50 0 else if what = 1 then i51 else if 2 ≤ what ∧ what - 2 < x50 0 then x50 (what - 1) else -1)))))) : CT g m_Mod_drawn (d + 1) [.ref 0, .int (ii what)] (MM i0 i6 i8 i9 i10 i13 i14 i18 i19 i20 i21 i22 i23 i24 i25 i27 i28 i33 i42 i43 i44 i45 i46 i47 i48 i51 i52 x1 x2 x3 x4 x5 x7 x11 x12 x15 x16 x17 x26 x29 x30 x31 x32 x34 x35 x36 x37 x38 x39 x40 x41 x49 x50) 0 0 Q := by
  refine CT.of (by decide) (Nat.le_of_ble_eq_true rfl) ?_
  show SJ _ _ _ _ [some (.ref 0), some (.int (ii what))] [] _ _ _ _
  refine j_aload_n d_Mod_drawn_0 rfl ?_
  refine mg_drawnLoose f_Mod_116 d_Mod_drawn_1 ?_
  refine z_iconst d_Mod_drawn_4 ?_
  refine z_icmp_ne (t := 10) d_Mod_drawn_5 (by decide) (by first | omega | exact hw _ | exact hx _ _ | assumption) (by first | omega | exact hw _ | exact hx _ _ | assumption) (fun h5 => ?_) (fun h5 => ?_)
  · refine j_iload_n d_Mod_drawn_10 rfl ?_
    refine z_case (0) (fun h11_0 => ?_) (fun h11_0 => ?_)
    · refine z_lookIn (t := 36) (o := 25) d_Mod_drawn_11 (by first | omega | exact hw _ | exact hx _ _ | assumption) h11_0 (by decide) (by decide) (by decide) ?_
      refine j_aload_n d_Mod_drawn_36 rfl ?_
      refine mg_drawnMoved f_Mod_113 d_Mod_drawn_37 ?_
      refine z_iconst d_Mod_drawn_40 ?_
      refine ml_drawnMoved d_Mod_drawn_41 (by omega) (by omega) ?_
      exact z_iret rfl d_Mod_drawn_42 (by (repeat rw [if_neg (by omega)]); (try rw [if_pos (by omega)]); (try (congr 1; omega))) hQ
    refine z_case (1) (fun h11_1 => ?_) (fun h11_1 => ?_)
    · refine z_lookIn (t := 43) (o := 32) d_Mod_drawn_11 (by first | omega | exact hw _ | exact hx _ _ | assumption) h11_1 (by decide) (by decide) (by decide) ?_
      refine j_aload_n d_Mod_drawn_43 rfl ?_
      refine mg_drawnLoose f_Mod_116 d_Mod_drawn_44 ?_
      exact z_iret rfl d_Mod_drawn_47 (by (repeat rw [if_neg (by omega)]); (try rw [if_pos (by omega)]); (try (congr 1; omega))) hQ
    refine z_lookOut (t := 48) d_Mod_drawn_11 (by first | omega | exact hw _ | exact hx _ _ | assumption) (by simp [Op.lookupswitch.offset_cons, Op.lookupswitch.offset_nil]; omega) (by decide) (by decide) ?_
    refine j_iload_n d_Mod_drawn_48 rfl ?_
    refine z_iconst d_Mod_drawn_49 ?_
    refine z_isub d_Mod_drawn_50 ?_
    have hwr := wr_or (what - 2)
    rw [ii_wr (what - 2)]
    refine z_iconst d_Mod_drawn_51 ?_
    refine j_aload_n d_Mod_drawn_52 rfl ?_
    refine mg_drawnMoved f_Mod_113 d_Mod_drawn_53 ?_
    refine z_iconst d_Mod_drawn_56 ?_
    refine ml_drawnMoved d_Mod_drawn_57 (by omega) (by omega) ?_
    refine z_iconst d_Mod_drawn_58 ?_
    refine z_isub d_Mod_drawn_59 ?_
    refine s_call3 d_Mod_drawn_60 c_Mod_18 (Nat.le_of_ble_eq_true rfl) (t_Mod_lies (by first | omega | exact hw _ | exact hx _ _ | assumption) (by first | omega | exact hw _ | exact hx _ _ | assumption) (by first | omega | exact hw _ | exact hx _ _ | assumption) (fun h60 => ?_) (fun h60 => ?_))
    · refine z_if_eq (t := 79) d_Mod_drawn_63 (by decide) (by first | omega | exact hw _ | exact hx _ _ | assumption) (fun h => absurd h (by decide)) (fun _ => ?_)
      refine j_aload_n d_Mod_drawn_66 rfl ?_
      refine mg_drawnMoved f_Mod_113 d_Mod_drawn_67 ?_
      refine z_iconst d_Mod_drawn_70 ?_
      refine j_iload_n d_Mod_drawn_71 rfl ?_
      refine z_iadd d_Mod_drawn_72 ?_
      refine z_iconst d_Mod_drawn_73 ?_
      refine z_isub d_Mod_drawn_74 ?_
      refine ml_drawnMoved d_Mod_drawn_75 (by omega) (by omega) ?_
      refine j_goto (t := 80) d_Mod_drawn_76 (by decide) ?_
      exact z_iret rfl d_Mod_drawn_80 (by (repeat rw [if_neg (by omega)]); (try rw [if_pos (by omega)]); (try (congr 1; omega))) hQ
    · refine z_if_eq (t := 79) d_Mod_drawn_63 (by decide) (by first | omega | exact hw _ | exact hx _ _ | assumption) (fun _ => ?_) (fun h => absurd h (by decide))
      refine z_iconst d_Mod_drawn_79 ?_
      exact z_iret rfl d_Mod_drawn_80 (by (repeat rw [if_neg (by omega)]); (try rw [if_pos (by omega)]); (try (congr 1; omega))) hQ
  · refine z_iconst d_Mod_drawn_8 ?_
    exact z_iret rfl d_Mod_drawn_9 (by (repeat rw [if_neg (by omega)]); (try rw [if_pos (by omega)]); (try (congr 1; omega))) hQ
