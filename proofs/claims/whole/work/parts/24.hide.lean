theorem lp_hasAll {g : Bool} {d : Nat} {Q : List xM → Option Value → Prop} {i0 i6 i8 i9 i10 i13 i14 i18 i19 i20 i21 i22 i23 i24 i25 i27 i28 i33 i42 i43 i44 i45 i46 i47 i48 i51 i52 : Int} {x1 x2 x3 x4 x5 x7 x11 x12 x15 x16 x17 x26 x29 x30 x31 x32 x34 x35 x36 x37 x38 x39 x40 x41 x49 x50 : Int → Int} (hn0 : 0 ≤ x2 0) (hn1 : x2 0 ≤ 20) (hs : ∀ j, 0 ≤ j → j < x2 0 → 0 ≤ x2 (1 + j) ∧ x2 (1 + j) ≤ 11) (hm : ∀ j, 0 ≤ j → j < x2 0 → R32 (x29 j)) (hdq : ∀ p, 0 ≤ p → p < x2 0 → dpc x29 p p.toNat = dp x2 p) {people a b : Int} (a0 : 0 ≤ a) (a1 : a ≤ 20) (b0 : 0 ≤ b) (b1 : b ≤ 20) (ht : hAl x2 people a b → Q (MM i0 i6 i8 i9 i10 i13 i14 i18 i19 i20 i21 i22 i23 i24 i25 i27 i28 i33 i42 i43 i44 i45 i46 i47 i48 i51 i52 x1 x2 x3 x4 x5 x7 x11 x12 x15 x16 x17 x26 x29 x30 x31 x32 x34 x35 x36 x37 x38 x39 x40 x41 x49 x50) (some (.int (ii 1)))) (hf : ¬ (hAl x2 people a b) → Q (MM i0 i6 i8 i9 i10 i13 i14 i18 i19 i20 i21 i22 i23 i24 i25 i27 i28 i33 i42 i43 i44 i45 i46 i47 i48 i51 i52 x1 x2 x3 x4 x5 x7 x11 x12 x15 x16 x17 x26 x29 x30 x31 x32 x34 x35 x36 x37 x38 x39 x40 x41 x49 x50) (some (.int (ii 0)))) : ∀ (nn : Nat) (p : Int) (is : Int), (x2 0 - p).toNat = nn → 0 ≤ p → p ≤ x2 0 → Hd ((is = 1 ∧ ∀ k : Nat, (k : Int) < p → ((a ≤ (k : Int) ∧ (k : Int) < b) ∨ ¬ sai x2 people k)) ∨ (is = 0 ∧ ¬ hAl x2 people a b)) → SJ g m_Mod_hasAll (d + 2) 11 [some (.ref 0), some (.int (ii people)), some (.int (ii a)), some (.int (ii b)), some (.int (ii is)), some (.int (ii p))] [] (MM i0 i6 i8 i9 i10 i13 i14 i18 i19 i20 i21 i22 i23 i24 i25 i27 i28 i33 i42 i43 i44 i45 i46 i47 i48 i51 i52 x1 x2 x3 x4 x5 x7 x11 x12 x15 x16 x17 x26 x29 x30 x31 x32 x34 x35 x36 x37 x38 x39 x40 x41 x49 x50) 0 0 Q := by
  intro nn
  induction nn using Nat.strongRecOn with
  | ind nn ih =>
  intro p is hn p0 p1 hI
  have hib : is = 0 ∨ is = 1 := by rcases Hd.out hI with q | q <;> omega
  refine j_iload d_Mod_hasAll_11 rfl ?_
  refine j_aload_n d_Mod_hasAll_13 rfl ?_
  refine v_call0 d_Mod_hasAll_14 c_Mod_125 rfl ⟨_, rfl, rfl⟩ (Nat.le_of_ble_eq_true rfl) (t_Mod_length  ?_)
  refine z_icmp_ge (t := 60) d_Mod_hasAll_17 (by decide) (by first | omega | exact hw _ | exact hx _ _ | assumption) (by first | omega | exact hw _ | exact hx _ _ | assumption) (fun h17 => ?_) (fun h17 => ?_)
  · refine j_iload d_Mod_hasAll_60 rfl ?_
    rcases Hd.out hI with ⟨rfl, q⟩ | ⟨rfl, q⟩
    · exact z_zreturn rfl (Or.inr rfl) d_Mod_hasAll_62 (ht (fun k hk2 => q k (by omega)))
    · exact z_zreturn rfl (Or.inl rfl) d_Mod_hasAll_62 (hf q)
  · refine j_iload d_Mod_hasAll_20 rfl ?_
    refine z_if_eq (t := 60) d_Mod_hasAll_22 (by decide) (by first | omega | exact hw _ | exact hx _ _ | assumption) (fun h22 => ?_) (fun h22 => ?_)
    · refine j_iload d_Mod_hasAll_60 rfl ?_
      rcases Hd.out hI with ⟨rfl, q⟩ | ⟨rfl, q⟩
      · exact z_zreturn rfl (Or.inr rfl) d_Mod_hasAll_62 (ht (fun k hk2 => q k (by omega)))
      · exact z_zreturn rfl (Or.inl rfl) d_Mod_hasAll_62 (hf q)
    · have hsp := hs p (by omega) (by omega)
      have hall := ((Hd.out hI).resolve_right (fun q => by omega)).2
      refine j_iload d_Mod_hasAll_25 rfl ?_
      refine j_iload_n d_Mod_hasAll_27 rfl ?_
      refine j_iload_n d_Mod_hasAll_28 rfl ?_
      refine z_iconst d_Mod_hasAll_29 ?_
      refine z_isub d_Mod_hasAll_30 ?_
      refine s_call3 d_Mod_hasAll_31 c_Mod_18 (Nat.le_of_ble_eq_true rfl) (t_Mod_lies (by first | omega | exact hw _ | exact hx _ _ | assumption) (by first | omega | exact hw _ | exact hx _ _ | assumption) (by first | omega | exact hw _ | exact hx _ _ | assumption) (fun h31 => ?_) (fun h31 => ?_))
      · refine z_if_ne (t := 47) d_Mod_hasAll_34 (by decide) (by first | omega | exact hw _ | exact hx _ _ | assumption) (fun _ => ?_) (fun h => absurd h (by decide))
        refine z_iconst d_Mod_hasAll_47 ?_
        refine j_goto (t := 52) d_Mod_hasAll_48 (by decide) ?_
        refine j_istore d_Mod_hasAll_52 (by decide) ?_
        show SJ _ _ _ _ [_, _, _, _, _, _] _ _ _ _ _
        refine z_iinc d_Mod_hasAll_54 rfl (by decide) ?_
        show SJ _ _ _ _ [_, _, _, _, _, _] _ _ _ _ _
        refine j_goto (t := 11) d_Mod_hasAll_57 (by decide) ?_
        first
        | exact ih _ (by omega) _ _ rfl (by omega) (by omega) (Or.inl ⟨rfl, fun k hk2 => by by_cases e : (k : Int) = p; (rw [e]; first | exact Or.inl (by omega) | exact Or.inr (fun qq => h41 ⟨qq.1, qq.2.1, by rw [hdq p (by omega) (by omega)]; exact qq.2.2⟩)); exact hall k (by omega)⟩)
        | exact ih _ (by omega) _ _ rfl (by omega) (by omega) (Or.inr ⟨rfl, fun qq => by rcases qq p.toNat (by omega) with q1 | q1; (rw [Int.toNat_of_nonneg (by omega)] at q1; omega); (rw [Int.toNat_of_nonneg (by omega)] at q1; exact q1 ⟨h41.1, h41.2.1, by rw [← hdq p (by omega) (by omega)]; exact h41.2.2⟩)⟩)
      · refine z_if_ne (t := 47) d_Mod_hasAll_34 (by decide) (by first | omega | exact hw _ | exact hx _ _ | assumption) (fun h => absurd h (by decide)) (fun _ => ?_)
        refine j_aload_n d_Mod_hasAll_37 rfl ?_
        refine j_iload d_Mod_hasAll_38 rfl ?_
        refine j_iload_n d_Mod_hasAll_40 rfl ?_
        refine v_call2 d_Mod_hasAll_41 c_Mod_345 rfl ⟨_, rfl, rfl⟩ (Nat.le_of_ble_eq_true rfl) (t_Mod_isSaid (by omega) (by omega) (by omega) (by omega) (fun j h1 h2 => hm j h1 (by omega)) (fun h41 => ?_) (fun h41 => ?_))
        · refine z_if_ne (t := 51) d_Mod_hasAll_44 (by decide) (by first | omega | exact hw _ | exact hx _ _ | assumption) (fun _ => ?_) (fun h => absurd h (by decide))
          refine z_iconst d_Mod_hasAll_51 ?_
          refine j_istore d_Mod_hasAll_52 (by decide) ?_
          show SJ _ _ _ _ [_, _, _, _, _, _] _ _ _ _ _
          refine z_iinc d_Mod_hasAll_54 rfl (by decide) ?_
          show SJ _ _ _ _ [_, _, _, _, _, _] _ _ _ _ _
          refine j_goto (t := 11) d_Mod_hasAll_57 (by decide) ?_
          first
          | exact ih _ (by omega) _ _ rfl (by omega) (by omega) (Or.inl ⟨rfl, fun k hk2 => by by_cases e : (k : Int) = p; (rw [e]; first | exact Or.inl (by omega) | exact Or.inr (fun qq => h41 ⟨qq.1, qq.2.1, by rw [hdq p (by omega) (by omega)]; exact qq.2.2⟩)); exact hall k (by omega)⟩)
          | exact ih _ (by omega) _ _ rfl (by omega) (by omega) (Or.inr ⟨rfl, fun qq => by rcases qq p.toNat (by omega) with q1 | q1; (rw [Int.toNat_of_nonneg (by omega)] at q1; omega); (rw [Int.toNat_of_nonneg (by omega)] at q1; exact q1 ⟨h41.1, h41.2.1, by rw [← hdq p (by omega) (by omega)]; exact h41.2.2⟩)⟩)
        · refine z_if_ne (t := 51) d_Mod_hasAll_44 (by decide) (by first | omega | exact hw _ | exact hx _ _ | assumption) (fun h => absurd h (by decide)) (fun _ => ?_)
          refine z_iconst d_Mod_hasAll_47 ?_
          refine j_goto (t := 52) d_Mod_hasAll_48 (by decide) ?_
          refine j_istore d_Mod_hasAll_52 (by decide) ?_
          show SJ _ _ _ _ [_, _, _, _, _, _] _ _ _ _ _
          refine z_iinc d_Mod_hasAll_54 rfl (by decide) ?_
          show SJ _ _ _ _ [_, _, _, _, _, _] _ _ _ _ _
          refine j_goto (t := 11) d_Mod_hasAll_57 (by decide) ?_
          first
          | exact ih _ (by omega) _ _ rfl (by omega) (by omega) (Or.inl ⟨rfl, fun k hk2 => by by_cases e : (k : Int) = p; (rw [e]; first | exact Or.inl (by omega) | exact Or.inr (fun qq => h41 ⟨qq.1, qq.2.1, by rw [hdq p (by omega) (by omega)]; exact qq.2.2⟩)); exact hall k (by omega)⟩)
          | exact ih _ (by omega) _ _ rfl (by omega) (by omega) (Or.inr ⟨rfl, fun qq => by rcases qq p.toNat (by omega) with q1 | q1; (rw [Int.toNat_of_nonneg (by omega)] at q1; omega); (rw [Int.toNat_of_nonneg (by omega)] at q1; exact q1 ⟨h41.1, h41.2.1, by rw [← hdq p (by omega) (by omega)]; exact h41.2.2⟩)⟩)
theorem t_Mod_hasAll {g : Bool} {d : Nat} {Q : List xM → Option Value → Prop} {i0 i6 i8 i9 i10 i13 i14 i18 i19 i20 i21 i22 i23 i24 i25 i27 i28 i33 i42 i43 i44 i45 i46 i47 i48 i51 i52 : Int} {x1 x2 x3 x4 x5 x7 x11 x12 x15 x16 x17 x26 x29 x30 x31 x32 x34 x35 x36 x37 x38 x39 x40 x41 x49 x50 : Int → Int} (hn0 : 0 ≤ x2 0) (hn1 : x2 0 ≤ 20) (hs : ∀ j, 0 ≤ j → j < x2 0 → 0 ≤ x2 (1 + j) ∧ x2 (1 + j) ≤ 11) {people a b : Int} (a0 : 0 ≤ a) (a1 : a ≤ 20) (b0 : 0 ≤ b) (b1 : b ≤ 20) (ht : hAl x2 people a b → ∀ y29 y30, Q (MM i0 i6 i8 i9 i10 i13 i14 i18 i19 i20 i21 i22 i23 i24 i25 i27 i28 i33 i42 i43 i44 i45 i46 i47 i48 i51 i52 x1 x2 x3 x4 x5 x7 x11 x12 x15 x16 x17 x26 y29 y30 x31 x32 x34 x35 x36 x37 x38 x39 x40 x41 x49 x50) (some (.int (ii 1)))) (hf : ¬ hAl x2 people a b → ∀ y29 y30, Q (MM i0 i6 i8 i9 i10 i13 i14 i18 i19 i20 i21 i22 i23 i24 i25 i27 i28 i33 i42 i43 i44 i45 i46 i47 i48 i51 i52 x1 x2 x3 x4 x5 x7 x11 x12 x15 x16 x17 x26 y29 y30 x31 x32 x34 x35 x36 x37 x38 x39 x40 x41 x49 x50) (some (.int (ii 0)))) : CT g m_Mod_hasAll (d + 4) [.ref 0, .int (ii people), .int (ii a), .int (ii b)] (MM i0 i6 i8 i9 i10 i13 i14 i18 i19 i20 i21 i22 i23 i24 i25 i27 i28 i33 i42 i43 i44 i45 i46 i47 i48 i51 i52 x1 x2 x3 x4 x5 x7 x11 x12 x15 x16 x17 x26 x29 x30 x31 x32 x34 x35 x36 x37 x38 x39 x40 x41 x49 x50) 0 0 Q := by
  refine CT.of (by decide) (Nat.le_of_ble_eq_true rfl) ?_
  show SJ _ _ _ _ [some (.ref 0), some (.int (ii people)), some (.int (ii a)), some (.int (ii b)), none, none] [] _ _ _ _
  refine j_aload_n d_Mod_hasAll_0 rfl ?_
  refine v_call0 d_Mod_hasAll_1 c_Mod_294 rfl ⟨_, rfl, rfl⟩ (Nat.le_of_ble_eq_true rfl) (t_Mod_looseMany hn0 hn1 hs ?_)
  refine j_pop d_Mod_hasAll_4 rfl ?_
  refine z_iconst d_Mod_hasAll_5 ?_
  refine j_istore d_Mod_hasAll_6 (by decide) ?_
  show SJ _ _ _ _ [_, _, _, _, _, _] _ _ _ _ _
  refine z_iconst d_Mod_hasAll_8 ?_
  refine j_istore d_Mod_hasAll_9 (by decide) ?_
  show SJ _ _ _ _ [_, _, _, _, _, _] _ _ _ _ _
  exact lp_hasAll hn0 hn1 hs (fun j h1 h2 => by have := mt_R (K := x2) hn1 x29 x30 (q := j) h1 h2; omega) (fun p h1 h2 => dp_eq x29 x30 h1 (by omega)) a0 a1 b0 b1 (fun q => ht q _ _) (fun q => hf q _ _) _ 0 1 rfl (by omega) (by omega) (Or.inl ⟨rfl, fun k hk2 => by omega⟩)
theorem t_Mod_triesPair {g : Bool} {d : Nat} {Q : List xM → Option Value → Prop} {i0 i6 i8 i9 i10 i13 i14 i18 i19 i20 i21 i22 i23 i24 i25 i27 i28 i33 i42 i43 i44 i45 i46 i47 i48 i51 i52 : Int} {x1 x2 x3 x4 x5 x7 x11 x12 x15 x16 x17 x26 x29 x30 x31 x32 x34 x35 x36 x37 x38 x39 x40 x41 x49 x50 : Int → Int} (hk : KOK x2) (hcc : ∀ s p, 0 ≤ s → s < 6 → 0 ≤ p → p ≤ x2 0 → x35 (21 * s + p) = cA x2 s p) {kind a b : Int} (k0 : 0 ≤ kind) (k1 : kind < 3) (a0 : 0 ≤ a) (a1 : a ≤ x2 0) (b0 : 0 ≤ b) (b1 : b ≤ x2 0) (hy : yR x40) (hQ : Q (MM i0 i6 i8 i9 i10 i13 i14 i18 i19 i20 i21 i22 i23 i24 i25 i27 i28 i33 i42 i43 i44 i45 i46 i47 i48 i51 i52 x1 x2 x3 x4 x5 x7 x11 x12 x15 x16 x17 x26 x29 x30 x31 x32 x34 x35 x36 x37 x38 x39 (hdU x2 kind a b x40) x41 x49 x50) none) : CT g m_Mod_triesPair d [.ref 0, .int (ii kind), .int (ii a), .int (ii b)] (MM i0 i6 i8 i9 i10 i13 i14 i18 i19 i20 i21 i22 i23 i24 i25 i27 i28 i33 i42 i43 i44 i45 i46 i47 i48 i51 i52 x1 x2 x3 x4 x5 x7 x11 x12 x15 x16 x17 x26 x29 x30 x31 x32 x34 x35 x36 x37 x38 x39 x40 x41 x49 x50) 0 0 Q := by
  refine CT.of (by decide) (Nat.le_of_ble_eq_true rfl) ?_
  show SJ _ _ _ _ [some (.ref 0), some (.int (ii kind)), some (.int (ii a)), some (.int (ii b)), none, none, none] [] _ _ _ _
  obtain ⟨⟨⟨hn0, hn1⟩, hs, hpg, hdp, hmo, hco, hfo⟩, hC, hz, hLw⟩ := id hk
  have f0 := hfo.1
  have f1 : x2 25 ≤ 5 := by omega
  clear hLw
  have c1 := cA_R (s := kind) (p := a) hk (by omega) (by omega) (by omega) (by omega)
  have c2 := cA_R (s := 3 + kind) (p := b) hk (by omega) (by omega) (by omega) (by omega)
  refine j_aload_n d_Mod_triesPair_0 rfl ?_
  refine mg_costAt f_Mod_85 d_Mod_triesPair_1 ?_
  refine z_bipush d_Mod_triesPair_4 (by decide) ?_
  refine j_iload_n d_Mod_triesPair_6 rfl ?_
  refine z_imul d_Mod_triesPair_7 ?_
  refine j_iload_n d_Mod_triesPair_8 rfl ?_
  refine z_iadd d_Mod_triesPair_9 ?_
  refine ml_costAt d_Mod_triesPair_10 (by omega) (by omega) ?_
  rw [hcc kind a (by omega) (by omega) (by omega) (by omega)]
  refine j_istore d_Mod_triesPair_11 (by decide) ?_
  show SJ _ _ _ _ [_, _, _, _, _, _, _] _ _ _ _ _
  refine j_aload_n d_Mod_triesPair_13 rfl ?_
  refine mg_costAt f_Mod_85 d_Mod_triesPair_14 ?_
  refine z_bipush d_Mod_triesPair_17 (by decide) ?_
  refine z_iconst d_Mod_triesPair_19 ?_
  refine j_iload_n d_Mod_triesPair_20 rfl ?_
  refine z_iadd d_Mod_triesPair_21 ?_
  refine z_imul d_Mod_triesPair_22 ?_
  refine j_iload_n d_Mod_triesPair_23 rfl ?_
  refine z_iadd d_Mod_triesPair_24 ?_
  refine ml_costAt d_Mod_triesPair_25 (by omega) (by omega) ?_
  rw [hcc (3 + kind) b (by omega) (by omega) (by omega) (by omega)]
  refine j_istore d_Mod_triesPair_26 (by decide) ?_
  show SJ _ _ _ _ [_, _, _, _, _, _, _] _ _ _ _ _
  refine j_iload d_Mod_triesPair_28 rfl ?_
  refine z_ldc (w := 1000000) d_Mod_triesPair_30 k_Mod_158 (by decide) ?_
  refine z_icmp_eq (t := 42) d_Mod_triesPair_32 (by decide) (by first | omega | exact hw _ | exact hx _ _ | assumption) (by first | omega | exact hw _ | exact hx _ _ | assumption) (fun h32 => ?_) (fun h32 => ?_)
  · rw [hdU, if_pos (by first | exact Or.inl (cA_bar hk (by omega) (by omega) (by omega) (by omega) (by omega)) | exact Or.inr (cA_bar hk (by omega) (by omega) (by omega) (by omega) (by omega)))] at hQ
    exact j_return rfl d_Mod_triesPair_42 hQ
  · refine j_iload d_Mod_triesPair_35 rfl ?_
    refine z_ldc (w := 1000000) d_Mod_triesPair_37 k_Mod_158 (by decide) ?_
    refine z_icmp_ne (t := 43) d_Mod_triesPair_39 (by decide) (by first | omega | exact hw _ | exact hx _ _ | assumption) (by first | omega | exact hw _ | exact hx _ _ | assumption) (fun h39 => ?_) (fun h39 => ?_)
    · have e1 := cA_div hk (s := kind) (p := a) (by omega) (by omega) (by omega) (by omega) (by omega)
      have e2 := cA_div hk (s := 3 + kind) (p := b) (by omega) (by omega) (by omega) (by omega) (by omega)
      refine j_iload d_Mod_triesPair_43 rfl ?_
      refine z_bipush d_Mod_triesPair_45 (by decide) ?_
      refine z_idiv d_Mod_triesPair_47 (by first | omega | exact hw _ | exact hx _ _ | assumption) (by first | omega | exact hw _ | exact hx _ _ | assumption) (by decide) ?_
      refine j_iload d_Mod_triesPair_48 rfl ?_
      refine z_bipush d_Mod_triesPair_50 (by decide) ?_
      refine z_idiv d_Mod_triesPair_52 (by first | omega | exact hw _ | exact hx _ _ | assumption) (by first | omega | exact hw _ | exact hx _ _ | assumption) (by decide) ?_
      rw [e1.2, e2.2]
      have i1 := hk.hasR (head := 1) (s := kind) (p := a) (wo := 1) (by omega) (by omega) (by omega) (by omega) (by omega)
      have i2 := hk.hasR (head := 1) (s := 3 + kind) (p := b) (wo := 1) (by omega) (by omega) (by omega) (by omega) (by omega)
      refine z_iadd d_Mod_triesPair_53 ?_
      refine j_istore d_Mod_triesPair_54 (by decide) ?_
      show SJ _ _ _ _ [_, _, _, _, _, _, _] _ _ _ _ _
      refine j_iload d_Mod_triesPair_56 rfl ?_
      refine j_aload_n d_Mod_triesPair_58 rfl ?_
      refine mg_hiding f_Mod_101 d_Mod_triesPair_59 ?_
      refine z_iconst d_Mod_triesPair_62 ?_
      refine ml_hiding d_Mod_triesPair_63 (by omega) (by omega) ?_
      refine z_icmp_lt (t := 68) d_Mod_triesPair_64 (by decide) (by first | omega | exact hw _ | exact hx _ _ | assumption) (by first | omega | exact hw _ | exact hx _ _ | assumption) (fun h64 => ?_) (fun h64 => ?_)
      · refine j_aload_n d_Mod_triesPair_68 rfl ?_
        refine mg_hiding f_Mod_101 d_Mod_triesPair_69 ?_
        refine z_iconst d_Mod_triesPair_72 ?_
        refine j_iload d_Mod_triesPair_73 rfl ?_
        refine ms_hiding d_Mod_triesPair_75 (by omega) (by omega) ?_
        refine j_aload_n d_Mod_triesPair_76 rfl ?_
        refine mg_hiding f_Mod_101 d_Mod_triesPair_77 ?_
        refine z_iconst d_Mod_triesPair_80 ?_
        refine j_iload_n d_Mod_triesPair_81 rfl ?_
        refine ms_hiding d_Mod_triesPair_82 (by omega) (by omega) ?_
        refine j_aload_n d_Mod_triesPair_83 rfl ?_
        refine mg_hiding f_Mod_101 d_Mod_triesPair_84 ?_
        refine z_iconst d_Mod_triesPair_87 ?_
        refine j_iload_n d_Mod_triesPair_88 rfl ?_
        refine ms_hiding d_Mod_triesPair_89 (by omega) (by omega) ?_
        refine j_aload_n d_Mod_triesPair_90 rfl ?_
        refine mg_hiding f_Mod_101 d_Mod_triesPair_91 ?_
        refine z_iconst d_Mod_triesPair_94 ?_
        refine j_iload_n d_Mod_triesPair_95 rfl ?_
        refine ms_hiding d_Mod_triesPair_96 (by omega) (by omega) ?_
        rw [hdU, if_neg (fun qq => by rcases qq with qq | qq; exact e1.1 qq; exact e2.1 qq), if_neg (by omega)] at hQ
        exact j_return rfl d_Mod_triesPair_97 hQ
      · rw [hdU, if_neg (fun qq => by rcases qq with qq | qq; exact e1.1 qq; exact e2.1 qq), if_pos (by omega)] at hQ
        exact j_return rfl d_Mod_triesPair_67 hQ
    · rw [hdU, if_pos (by first | exact Or.inl (cA_bar hk (by omega) (by omega) (by omega) (by omega) (by omega)) | exact Or.inr (cA_bar hk (by omega) (by omega) (by omega) (by omega) (by omega)))] at hQ
      exact j_return rfl d_Mod_triesPair_42 hQ
theorem lp_hide3 {g : Bool} {d : Nat} {Q : List xM → Option Value → Prop} {i0 i6 i8 i9 i10 i13 i14 i18 i19 i20 i21 i22 i23 i24 i25 i27 i28 i33 i42 i43 i44 i45 i46 i47 i48 i51 i52 : Int} {x1 x2 x3 x4 x5 x7 x11 x12 x15 x16 x17 x26 x31 x32 x34 x35 x36 x37 x38 x39 x41 x49 x50 : Int → Int} (hk : KOK x2) (hcc : ∀ s p, 0 ≤ s → s < 6 → 0 ≤ p → p ≤ x2 0 → x35 (21 * s + p) = cA x2 s p) {people w : Int} {kind a : Int} (k0 : 0 ≤ kind) (k1 : kind < 3) (a0 : 0 ≤ a) (a1 : a < x2 0) {R : Int → Int} (hkk : ∀ y29 y30, yR R → SJ g m_Mod_hide (d + 5) 52 [some (.ref 0), some (.int (ii people)), some (.int (ii w)), some (.int (ii kind)), some (.int (ii (a + 1))), none] [] (MM i0 i6 i8 i9 i10 i13 i14 i18 i19 i20 i21 i22 i23 i24 i25 i27 i28 i33 i42 i43 i44 i45 i46 i47 i48 i51 i52 x1 x2 x3 x4 x5 x7 x11 x12 x15 x16 x17 x26 y29 y30 x31 x32 x34 x35 x36 x37 x38 x39 R x41 x49 x50) 0 0 Q) : ∀ (nn : Nat) (b : Int) (y : Int → Int) (y29 : Int → Int) (y30 : Int → Int), (x2 0 + 1 - b).toNat = nn → a < b → b ≤ x2 0 + 1 → yR y → hd3 x2 people kind a (x2 0 + 1 - b).toNat b y = R → SJ g m_Mod_hide (d + 5) 67 [some (.ref 0), some (.int (ii people)), some (.int (ii w)), some (.int (ii kind)), some (.int (ii a)), some (.int (ii b))] [] (MM i0 i6 i8 i9 i10 i13 i14 i18 i19 i20 i21 i22 i23 i24 i25 i27 i28 i33 i42 i43 i44 i45 i46 i47 i48 i51 i52 x1 x2 x3 x4 x5 x7 x11 x12 x15 x16 x17 x26 y29 y30 x31 x32 x34 x35 x36 x37 x38 x39 y x41 x49 x50) 0 0 Q := by
  intro nn
  induction nn using Nat.strongRecOn with
  | ind nn ih =>
  intro b y y29 y30 hn b0 b1 hy hR
  obtain ⟨⟨⟨hn0, hn1⟩, hs, hpg, hdp, hmo, hco, hfo⟩, hC, hz, hLw⟩ := id hk
  have f0 := hfo.1
  have f1 : x2 25 ≤ 5 := by omega
  clear hLw
  refine j_iload d_Mod_hide_67 rfl ?_
  refine j_aload_n d_Mod_hide_69 rfl ?_
  refine v_call0 d_Mod_hide_70 c_Mod_125 rfl ⟨_, rfl, rfl⟩ (Nat.le_of_ble_eq_true rfl) (t_Mod_length  ?_)
  refine z_icmp_gt (t := 114) d_Mod_hide_73 (by decide) (by first | omega | exact hw _ | exact hx _ _ | assumption) (by first | omega | exact hw _ | exact hx _ _ | assumption) (fun h73 => ?_) (fun h73 => ?_)
  · rw [show (x2 0 + 1 - b).toNat = 0 by omega] at hR
    simp only [hd3] at hR
    subst hR
    refine z_iinc d_Mod_hide_114 rfl (by decide) ?_
    show SJ _ _ _ _ [_, _, _, _, _, _] _ _ _ _ _
    refine j_goto (t := 52) d_Mod_hide_117 (by decide) ?_
    refine SJ.mask [true, true, true, true, true, false] ?_
    show SJ _ _ _ _ [_, _, _, _, _, none] _ _ _ _ _
    exact hkk _ _ hy
  · rw [show (x2 0 + 1 - b).toNat = (x2 0 + 1 - (b + 1)).toNat + 1 by omega] at hR
    simp only [hd3] at hR
    refine j_aload_n d_Mod_hide_76 rfl ?_
    refine j_iload_n d_Mod_hide_77 rfl ?_
    refine j_iload d_Mod_hide_78 rfl ?_
    refine j_iload d_Mod_hide_80 rfl ?_
    refine v_call3 d_Mod_hide_82 c_Mod_447 rfl ⟨_, rfl, rfl⟩ (Nat.le_of_ble_eq_true rfl) (t_Mod_hasAll hn0 hn1 hs (by omega) (by omega) (by omega) (by omega) (fun h82 z29 z30 => ?_) (fun h82 z29 z30 => ?_))
    · refine z_if_eq (t := 108) d_Mod_hide_85 (by decide) (by first | omega | exact hw _ | exact hx _ _ | assumption) (fun h => absurd h (by decide)) (fun _ => ?_)
      refine j_aload_n d_Mod_hide_88 rfl ?_
      refine j_iload d_Mod_hide_89 rfl ?_
      refine j_iload d_Mod_hide_91 rfl ?_
      refine v_call2 d_Mod_hide_93 c_Mod_348 rfl ⟨_, rfl, rfl⟩ (Nat.le_of_ble_eq_true rfl) (t_Mod_isWhole (by omega) (by omega) (by omega) (fun j h1 h2 => hs j h1 (by omega)) (by omega) (fun h93 => ?_) (fun h93 => ?_))
      · refine z_if_eq (t := 108) d_Mod_hide_96 (by decide) (by first | omega | exact hw _ | exact hx _ _ | assumption) (fun h => absurd h (by decide)) (fun _ => ?_)
        refine j_aload_n d_Mod_hide_99 rfl ?_
        refine j_iload_n d_Mod_hide_100 rfl ?_
        refine j_iload d_Mod_hide_101 rfl ?_
        refine j_iload d_Mod_hide_103 rfl ?_
        refine v_call3 d_Mod_hide_105 c_Mod_450 rfl ⟨_, rfl, rfl⟩ (Nat.le_of_ble_eq_true rfl) (t_Mod_triesPair hk hcc (by omega) (by omega) (by omega) (by omega) (by omega) (by omega) hy ?_)
        refine z_iinc d_Mod_hide_108 rfl (by decide) ?_
        show SJ _ _ _ _ [_, _, _, _, _, _] _ _ _ _ _
        refine j_goto (t := 67) d_Mod_hide_111 (by decide) ?_
        first
        | (rw [if_neg (fun q => h82 q.1)] at hR
           exact ih _ (by omega) _ _ _ _ rfl (by omega) (by omega) hy hR)
        | (rw [if_neg (fun q => h93 (by rw [lo_eq z29 z30]; exact q.2))] at hR
           exact ih _ (by omega) _ _ _ _ rfl (by omega) (by omega) hy hR)
        | (rw [if_pos ⟨h82, by rw [← lo_eq z29 z30]; exact h93⟩] at hR
           exact ih _ (by omega) _ _ _ _ rfl (by omega) (by omega) (hdU_R hk (by omega) (by omega) (by omega) (by omega) (by omega) (by omega) hy) hR)
      · refine z_if_eq (t := 108) d_Mod_hide_96 (by decide) (by first | omega | exact hw _ | exact hx _ _ | assumption) (fun _ => ?_) (fun h => absurd h (by decide))
        refine z_iinc d_Mod_hide_108 rfl (by decide) ?_
        show SJ _ _ _ _ [_, _, _, _, _, _] _ _ _ _ _
        refine j_goto (t := 67) d_Mod_hide_111 (by decide) ?_
        first
        | (rw [if_neg (fun q => h82 q.1)] at hR
           exact ih _ (by omega) _ _ _ _ rfl (by omega) (by omega) hy hR)
        | (rw [if_neg (fun q => h93 (by rw [lo_eq z29 z30]; exact q.2))] at hR
           exact ih _ (by omega) _ _ _ _ rfl (by omega) (by omega) hy hR)
        | (rw [if_pos ⟨h82, by rw [← lo_eq z29 z30]; exact h93⟩] at hR
           exact ih _ (by omega) _ _ _ _ rfl (by omega) (by omega) (hdU_R hk (by omega) (by omega) (by omega) (by omega) (by omega) (by omega) hy) hR)
    · refine z_if_eq (t := 108) d_Mod_hide_85 (by decide) (by first | omega | exact hw _ | exact hx _ _ | assumption) (fun _ => ?_) (fun h => absurd h (by decide))
      refine z_iinc d_Mod_hide_108 rfl (by decide) ?_
      show SJ _ _ _ _ [_, _, _, _, _, _] _ _ _ _ _
      refine j_goto (t := 67) d_Mod_hide_111 (by decide) ?_
      first
      | (rw [if_neg (fun q => h82 q.1)] at hR
         exact ih _ (by omega) _ _ _ _ rfl (by omega) (by omega) hy hR)
      | (rw [if_neg (fun q => h93 (by rw [lo_eq z29 z30]; exact q.2))] at hR
         exact ih _ (by omega) _ _ _ _ rfl (by omega) (by omega) hy hR)
      | (rw [if_pos ⟨h82, by rw [← lo_eq z29 z30]; exact h93⟩] at hR
         exact ih _ (by omega) _ _ _ _ rfl (by omega) (by omega) (hdU_R hk (by omega) (by omega) (by omega) (by omega) (by omega) (by omega) hy) hR)
theorem lp_hide2 {g : Bool} {d : Nat} {Q : List xM → Option Value → Prop} {i0 i6 i8 i9 i10 i13 i14 i18 i19 i20 i21 i22 i23 i24 i25 i27 i28 i33 i42 i43 i44 i45 i46 i47 i48 i51 i52 : Int} {x1 x2 x3 x4 x5 x7 x11 x12 x15 x16 x17 x26 x31 x32 x34 x35 x36 x37 x38 x39 x41 x49 x50 : Int → Int} (hk : KOK x2) (hcc : ∀ s p, 0 ≤ s → s < 6 → 0 ≤ p → p ≤ x2 0 → x35 (21 * s + p) = cA x2 s p) {people w : Int} {kind : Int} (k0 : 0 ≤ kind) (k1 : kind < 3) {R : Int → Int} (hkk : ∀ y29 y30, yR R → SJ g m_Mod_hide (d + 5) 44 [some (.ref 0), some (.int (ii people)), some (.int (ii w)), some (.int (ii (kind + 1))), none, none] [] (MM i0 i6 i8 i9 i10 i13 i14 i18 i19 i20 i21 i22 i23 i24 i25 i27 i28 i33 i42 i43 i44 i45 i46 i47 i48 i51 i52 x1 x2 x3 x4 x5 x7 x11 x12 x15 x16 x17 x26 y29 y30 x31 x32 x34 x35 x36 x37 x38 x39 R x41 x49 x50) 0 0 Q) : ∀ (nn : Nat) (a : Int) (y : Int → Int) (y29 : Int → Int) (y30 : Int → Int), (x2 0 - a).toNat = nn → 0 ≤ a → a ≤ x2 0 → yR y → hd2 x2 people kind (x2 0 - a).toNat a y = R → SJ g m_Mod_hide (d + 5) 52 [some (.ref 0), some (.int (ii people)), some (.int (ii w)), some (.int (ii kind)), some (.int (ii a)), none] [] (MM i0 i6 i8 i9 i10 i13 i14 i18 i19 i20 i21 i22 i23 i24 i25 i27 i28 i33 i42 i43 i44 i45 i46 i47 i48 i51 i52 x1 x2 x3 x4 x5 x7 x11 x12 x15 x16 x17 x26 y29 y30 x31 x32 x34 x35 x36 x37 x38 x39 y x41 x49 x50) 0 0 Q := by
  intro nn
  induction nn using Nat.strongRecOn with
  | ind nn ih =>
  intro a y y29 y30 hn a0 a1 hy hR
  obtain ⟨⟨⟨hn0, hn1⟩, hs, hpg, hdp, hmo, hco, hfo⟩, hC, hz, hLw⟩ := id hk
  have f0 := hfo.1
  have f1 : x2 25 ≤ 5 := by omega
  clear hLw
  refine j_iload d_Mod_hide_52 rfl ?_
  refine j_aload_n d_Mod_hide_54 rfl ?_
  refine v_call0 d_Mod_hide_55 c_Mod_125 rfl ⟨_, rfl, rfl⟩ (Nat.le_of_ble_eq_true rfl) (t_Mod_length  ?_)
  refine z_icmp_ge (t := 120) d_Mod_hide_58 (by decide) (by first | omega | exact hw _ | exact hx _ _ | assumption) (by first | omega | exact hw _ | exact hx _ _ | assumption) (fun h58 => ?_) (fun h58 => ?_)
  · rw [show (x2 0 - a).toNat = 0 by omega] at hR
    simp only [hd2] at hR
    subst hR
    refine z_iinc d_Mod_hide_120 rfl (by decide) ?_
    show SJ _ _ _ _ [_, _, _, _, _, _] _ _ _ _ _
    refine j_goto (t := 44) d_Mod_hide_123 (by decide) ?_
    refine SJ.mask [true, true, true, true, false, false] ?_
    show SJ _ _ _ _ [_, _, _, _, none, none] _ _ _ _ _
    exact hkk _ _ hy
  · rw [show (x2 0 - a).toNat = (x2 0 - (a + 1)).toNat + 1 by omega] at hR
    simp only [hd2] at hR
    refine j_iload d_Mod_hide_61 rfl ?_
    refine z_iconst d_Mod_hide_63 ?_
    refine z_iadd d_Mod_hide_64 ?_
    refine j_istore d_Mod_hide_65 (by decide) ?_
    show SJ _ _ _ _ [_, _, _, _, _, _] _ _ _ _ _
    refine lp_hide3 hk hcc k0 k1 (by omega) (by omega) (fun z29 z30 hy2 => ?_) _ (a + 1) _ _ _ rfl (by omega) (by omega) hy rfl
    exact ih _ (by omega) _ _ _ _ rfl (by omega) (by omega) hy2 hR
theorem lp_hide1 {g : Bool} {d : Nat} {Q : List xM → Option Value → Prop} {i0 i6 i8 i9 i10 i13 i14 i18 i19 i20 i21 i22 i23 i24 i25 i27 i28 i33 i42 i43 i44 i45 i46 i47 i48 i51 i52 : Int} {x1 x2 x3 x4 x5 x7 x11 x12 x15 x16 x17 x26 x31 x32 x34 x35 x36 x37 x38 x39 x41 x49 x50 : Int → Int} (hk : KOK x2) (hcc : ∀ s p, 0 ≤ s → s < 6 → 0 ≤ p → p ≤ x2 0 → x35 (21 * s + p) = cA x2 s p) {people w : Int} (w0 : 0 ≤ w) (w1 : w ≤ 3) {R : Int → Int} (hQ : ∀ y29 y30, Q (MM i0 i6 i8 i9 i10 i13 i14 i18 i19 i20 i21 i22 i23 i24 i25 i27 i28 i33 i42 i43 i44 i45 i46 i47 i48 i51 i52 x1 x2 x3 x4 x5 x7 x11 x12 x15 x16 x17 x26 y29 y30 x31 x32 x34 x35 x36 x37 x38 x39 R x41 x49 x50) (some (.int (ii (if R 0 = 1000000 then -1 else R w))))) : ∀ (nn : Nat) (kind : Int) (y : Int → Int) (y29 : Int → Int) (y30 : Int → Int), (3 - kind).toNat = nn → 0 ≤ kind → kind ≤ 3 → yR y → hd1 x2 people (3 - kind).toNat kind y = R → SJ g m_Mod_hide (d + 5) 44 [some (.ref 0), some (.int (ii people)), some (.int (ii w)), some (.int (ii kind)), none, none] [] (MM i0 i6 i8 i9 i10 i13 i14 i18 i19 i20 i21 i22 i23 i24 i25 i27 i28 i33 i42 i43 i44 i45 i46 i47 i48 i51 i52 x1 x2 x3 x4 x5 x7 x11 x12 x15 x16 x17 x26 y29 y30 x31 x32 x34 x35 x36 x37 x38 x39 y x41 x49 x50) 0 0 Q := by
  intro nn
  induction nn using Nat.strongRecOn with
  | ind nn ih =>
  intro kind y y29 y30 hn k0 k1 hy hR
  obtain ⟨⟨⟨hn0, hn1⟩, hs, hpg, hdp, hmo, hco, hfo⟩, hC, hz, hLw⟩ := id hk
  have f0 := hfo.1
  have f1 : x2 25 ≤ 5 := by omega
  clear hLw
  refine j_iload_n d_Mod_hide_44 rfl ?_
  refine z_iconst d_Mod_hide_45 ?_
  refine z_icmp_ge (t := 126) d_Mod_hide_46 (by decide) (by first | omega | exact hw _ | exact hx _ _ | assumption) (by first | omega | exact hw _ | exact hx _ _ | assumption) (fun h46 => ?_) (fun h46 => ?_)
  · rw [show (3 - kind).toNat = 0 by omega] at hR
    simp only [hd1] at hR
    subst hR
    refine j_aload_n d_Mod_hide_126 rfl ?_
    refine mg_hiding f_Mod_101 d_Mod_hide_127 ?_
    refine z_iconst d_Mod_hide_130 ?_
    refine ml_hiding d_Mod_hide_131 (by omega) (by omega) ?_
    refine z_ldc (w := 1000000) d_Mod_hide_132 k_Mod_158 (by decide) ?_
    refine z_icmp_ne (t := 141) d_Mod_hide_134 (by decide) (by first | omega | exact hw _ | exact hx _ _ | assumption) (by first | omega | exact hw _ | exact hx _ _ | assumption) (fun h134 => ?_) (fun h134 => ?_)
    · refine j_aload_n d_Mod_hide_141 rfl ?_
      refine mg_hiding f_Mod_101 d_Mod_hide_142 ?_
      refine j_iload_n d_Mod_hide_145 rfl ?_
      refine ml_hiding d_Mod_hide_146 (by omega) (by omega) ?_
      exact z_iret rfl d_Mod_hide_147 (by first | rw [if_pos (by omega)] | rw [if_neg (by omega)]) (hQ _ _)
    · refine z_iconst d_Mod_hide_137 ?_
      refine j_goto (t := 147) d_Mod_hide_138 (by decide) ?_
      exact z_iret rfl d_Mod_hide_147 (by first | rw [if_pos (by omega)] | rw [if_neg (by omega)]) (hQ _ _)
  · rw [show (3 - kind).toNat = (3 - (kind + 1)).toNat + 1 by omega] at hR
    simp only [hd1] at hR
    refine z_iconst d_Mod_hide_49 ?_
    refine j_istore d_Mod_hide_50 (by decide) ?_
    show SJ _ _ _ _ [_, _, _, _, _, _] _ _ _ _ _
    refine lp_hide2 hk hcc k0 (by omega) (fun z29 z30 hy2 => ?_) _ 0 _ _ _ rfl (by omega) (by omega) hy rfl
    exact ih _ (by omega) _ _ _ _ rfl (by omega) (by omega) hy2 hR
theorem t_Mod_hide {g : Bool} {d : Nat} {Q : List xM → Option Value → Prop} {i0 i6 i8 i9 i10 i13 i14 i18 i19 i20 i21 i22 i23 i24 i25 i27 i28 i33 i42 i43 i44 i45 i46 i47 i48 i51 i52 : Int} {x1 x2 x3 x4 x5 x7 x11 x12 x15 x16 x17 x26 x29 x30 x31 x32 x34 x35 x36 x37 x38 x39 x40 x41 x49 x50 : Int → Int} (hk : KOK x2) {people w : Int} (r1 : R32 people) (r2 : R32 w) (hnx : ¬ ((0 ≤ people ∧ people ≤ 63) ∧ (0 ≤ w ∧ w ≤ 3) ∧ sd x2 &&& ii people ≠ ii 0) → ∀ y29 y30, Q (MM i0 i6 i8 i9 i10 i13 i14 i18 i19 i20 i21 i22 i23 i24 i25 i27 i28 i33 i42 i43 i44 i45 i46 i47 i48 i51 i52 x1 x2 x3 x4 x5 x7 x11 x12 x15 x16 x17 x26 y29 y30 x31 x32 x34 x35 x36 x37 x38 x39 x40 x41 x49 x50) (some (.int (ii (-1))))) (hQ : (0 ≤ people ∧ people ≤ 63) ∧ (0 ≤ w ∧ w ≤ 3) ∧ sd x2 &&& ii people ≠ ii 0 → ∀ z5 z40, ∀ j22 j23 j24 j25 y26 y29 y30, Q (MM i0 i6 i8 i9 i10 i13 i14 i18 i19 i20 i21 j22 j23 j24 j25 i27 i28 i33 i42 i43 i44 i45 i46 i47 i48 i51 i52 x1 x2 x3 x4 x5 x7 x11 x12 x15 x16 x17 y26 y29 y30 x31 x32 x34 z5 x36 x37 x38 x39 z40 x41 x49 x50) (some (.int (ii (if hdF x2 people x40 0 = 1000000 then -1 else hdF x2 people x40 w))))) : CT g m_Mod_hide (d + 90) [.ref 0, .int (ii people), .int (ii w)] (MM i0 i6 i8 i9 i10 i13 i14 i18 i19 i20 i21 i22 i23 i24 i25 i27 i28 i33 i42 i43 i44 i45 i46 i47 i48 i51 i52 x1 x2 x3 x4 x5 x7 x11 x12 x15 x16 x17 x26 x29 x30 x31 x32 x34 x35 x36 x37 x38 x39 x40 x41 x49 x50) 0 0 Q := by
  refine CT.of (by decide) (Nat.le_of_ble_eq_true rfl) ?_
  show SJ _ _ _ _ [some (.ref 0), some (.int (ii people)), some (.int (ii w)), none, none, none] [] _ _ _ _
  obtain ⟨⟨⟨hn0, hn1⟩, hs, hpg, hdp, hmo, hco, hfo⟩, hC, hz, hLw⟩ := id hk
  have f0 := hfo.1
  have f1 : x2 25 ≤ 5 := by omega
  clear hLw
  refine j_iload_n d_Mod_hide_0 rfl ?_
  refine z_iconst d_Mod_hide_1 ?_
  refine z_bipush d_Mod_hide_2 (by decide) ?_
  refine s_call3 d_Mod_hide_4 c_Mod_18 (Nat.le_of_ble_eq_true rfl) (t_Mod_lies (by first | omega | exact hw _ | exact hx _ _ | assumption) (by first | omega | exact hw _ | exact hx _ _ | assumption) (by first | omega | exact hw _ | exact hx _ _ | assumption) (fun h4 => ?_) (fun h4 => ?_))
  · refine z_if_eq (t := 28) d_Mod_hide_7 (by decide) (by first | omega | exact hw _ | exact hx _ _ | assumption) (fun h => absurd h (by decide)) (fun _ => ?_)
    refine j_iload_n d_Mod_hide_10 rfl ?_
    refine z_iconst d_Mod_hide_11 ?_
    refine z_iconst d_Mod_hide_12 ?_
    refine s_call3 d_Mod_hide_13 c_Mod_18 (Nat.le_of_ble_eq_true rfl) (t_Mod_lies (by first | omega | exact hw _ | exact hx _ _ | assumption) (by first | omega | exact hw _ | exact hx _ _ | assumption) (by first | omega | exact hw _ | exact hx _ _ | assumption) (fun h13 => ?_) (fun h13 => ?_))
    · refine z_if_eq (t := 28) d_Mod_hide_16 (by decide) (by first | omega | exact hw _ | exact hx _ _ | assumption) (fun h => absurd h (by decide)) (fun _ => ?_)
      refine j_aload_n d_Mod_hide_19 rfl ?_
      refine v_call0 d_Mod_hide_20 c_Mod_444 rfl ⟨_, rfl, rfl⟩ (Nat.le_of_ble_eq_true rfl) (t_Mod_said hn0 hn1 hs ?_)
      refine j_iload_n d_Mod_hide_23 rfl ?_
      refine j_iand d_Mod_hide_24 ?_
      refine j_if_ne (t := 30) d_Mod_hide_25 (by decide) (fun h25 => ?_) (fun h25 => ?_)
      · refine j_aload_n d_Mod_hide_30 rfl ?_
        refine v_call0 d_Mod_hide_31 c_Mod_390 rfl ⟨_, rfl, rfl⟩ (Nat.le_of_ble_eq_true rfl) (t_Mod_laysCosts hk (fun z5 hz5 j22 j23 j24 j25 y26 y29 y30 => ?_))
        refine j_aload_n d_Mod_hide_34 rfl ?_
        refine mg_hiding f_Mod_101 d_Mod_hide_35 ?_
        refine z_iconst d_Mod_hide_38 ?_
        refine z_ldc (w := 1000000) d_Mod_hide_39 k_Mod_158 (by decide) ?_
        refine ms_hiding d_Mod_hide_41 (by omega) (by omega) ?_
        refine z_iconst d_Mod_hide_42 ?_
        refine j_istore_n d_Mod_hide_43 (by decide) ?_
        show SJ _ _ _ _ [_, _, _, _, _, _] _ _ _ _ _
        exact lp_hide1 (d := d + 85) hk hz5 (by omega) (by omega) (fun z29 z30 => hQ ⟨by omega, by omega, h25⟩ _ _ _ _ _ _ _ _ _) _ 0 _ _ _ rfl (by omega) (by omega) (by unfold yR; rw [up_eq]; omega) rfl
      · refine z_iconst d_Mod_hide_28 ?_
        exact z_iret rfl d_Mod_hide_29 rfl (hnx (fun q => by first | omega | exact q.2.2 h25) _ _)
    · refine z_if_eq (t := 28) d_Mod_hide_16 (by decide) (by first | omega | exact hw _ | exact hx _ _ | assumption) (fun _ => ?_) (fun h => absurd h (by decide))
      refine z_iconst d_Mod_hide_28 ?_
      exact z_iret rfl d_Mod_hide_29 rfl (hnx (fun q => by first | omega | exact q.2.2 h25) _ _)
  · refine z_if_eq (t := 28) d_Mod_hide_7 (by decide) (by first | omega | exact hw _ | exact hx _ _ | assumption) (fun _ => ?_) (fun h => absurd h (by decide))
    refine z_iconst d_Mod_hide_28 ?_
    exact z_iret rfl d_Mod_hide_29 rfl (hnx (fun q => by first | omega | exact q.2.2 h25) _ _)
theorem lp_likely0 {g : Bool} {d : Nat} {Q : List xM → Option Value → Prop} {i0 i6 i8 i9 i10 i13 i14 i18 i19 i20 i21 i22 i23 i24 i25 i27 i28 i33 i42 i43 i44 i45 i46 i47 i48 i51 i52 : Int} {x1 x2 x3 x4 x5 x7 x11 x12 x15 x16 x17 x26 x29 x30 x31 x32 x34 x35 x36 x37 x38 x39 x40 x49 x50 : Int → Int} {n : Int} (hkk : ∀ z, (∀ j, 0 ≤ j → j < 124 → z j = if j = 0 then 1000000000000 else 0) → SJ g m_Mod_likely d 49 [some (.ref 0), some (.int (ii n)), some (.int (ii 62)), none, none, none, none] [] (MM i0 i6 i8 i9 i10 i13 i14 i18 i19 i20 i21 i22 i23 i24 i25 i27 i28 i33 i42 i43 i44 i45 i46 i47 i48 i51 i52 x1 x2 x3 x4 x5 x7 x11 x12 x15 x16 x17 x26 x29 x30 x31 x32 x34 x35 x36 x37 x38 x39 x40 z x49 x50) 0 0 Q) : ∀ (nn : Nat) (k : Int) (z : Int → Int), (124 - k).toNat = nn → 0 ≤ k → k ≤ 124 → (∀ j, 0 ≤ j → j < k → z j = if j = 0 then 1000000000000 else 0) → SJ g m_Mod_likely d 19 [some (.ref 0), some (.int (ii n)), some (.int (ii 62)), some (.int (ii k)), none, none, none] [] (MM i0 i6 i8 i9 i10 i13 i14 i18 i19 i20 i21 i22 i23 i24 i25 i27 i28 i33 i42 i43 i44 i45 i46 i47 i48 i51 i52 x1 x2 x3 x4 x5 x7 x11 x12 x15 x16 x17 x26 x29 x30 x31 x32 x34 x35 x36 x37 x38 x39 x40 z x49 x50) 0 0 Q := by
  intro nn
  induction nn using Nat.strongRecOn with
  | ind nn ih =>
  intro k z hn k0 k1 hz
  refine j_iload_n d_Mod_likely_19 rfl ?_
  refine z_iconst d_Mod_likely_20 ?_
  refine j_iload_n d_Mod_likely_21 rfl ?_
  refine z_imul d_Mod_likely_22 ?_
  refine z_icmp_ge (t := 49) d_Mod_likely_23 (by decide) (by first | omega | exact hw _ | exact hx _ _ | assumption) (by first | omega | exact hw _ | exact hx _ _ | assumption) (fun h23 => ?_) (fun h23 => ?_)
  · refine SJ.mask [true, true, true, false, false, false, false] ?_
    show SJ _ _ _ _ [_, _, _, none, none, none, none] _ _ _ _ _
    exact hkk z (fun j e1 e2 => hz j e1 (by omega))
  · refine j_aload_n d_Mod_likely_26 rfl ?_
    refine mg_parts f_Mod_104 d_Mod_likely_27 ?_
    refine j_iload_n d_Mod_likely_30 rfl ?_
    refine j_iload_n d_Mod_likely_31 rfl ?_
    refine z_if_ne (t := 41) d_Mod_likely_32 (by decide) (by first | omega | exact hw _ | exact hx _ _ | assumption) (fun h32 => ?_) (fun h32 => ?_)
    · refine z_lconst (v := 0) d_Mod_likely_41 (by decide) ?_
      refine ms_parts d_Mod_likely_42 (by omega) (by omega) ?_
      refine z_iinc d_Mod_likely_43 rfl (by decide) ?_
      show SJ _ _ _ _ [_, _, _, _, _, _, _] _ _ _ _ _
      refine j_goto (t := 19) d_Mod_likely_46 (by decide) ?_
      exact ih _ (by omega) _ _ rfl (by omega) (by omega) (fun j e1 e2 => by by_cases e : j = k; (subst e; rw [up_eq]; first | rw [if_pos (by omega)] | rw [if_neg (by omega)]); (rw [up_ne e]; exact hz j e1 (by omega)))
    · refine z_ldc2 (w := 1000000000000) d_Mod_likely_35 k_Mod_454 (by decide) ?_
      refine j_goto (t := 42) d_Mod_likely_38 (by decide) ?_
      refine ms_parts d_Mod_likely_42 (by omega) (by omega) ?_
      refine z_iinc d_Mod_likely_43 rfl (by decide) ?_
      show SJ _ _ _ _ [_, _, _, _, _, _, _] _ _ _ _ _
      refine j_goto (t := 19) d_Mod_likely_46 (by decide) ?_
      exact ih _ (by omega) _ _ rfl (by omega) (by omega) (fun j e1 e2 => by by_cases e : j = k; (subst e; rw [up_eq]; first | rw [if_pos (by omega)] | rw [if_neg (by omega)]); (rw [up_ne e]; exact hz j e1 (by omega)))
theorem lp_likely1 {g : Bool} {d : Nat} {Q : List xM → Option Value → Prop} {i0 i6 i8 i9 i10 i13 i14 i18 i19 i20 i21 i22 i23 i24 i25 i27 i28 i33 i42 i43 i44 i45 i46 i47 i48 i51 i52 : Int} {x1 x2 x3 x4 x5 x7 x11 x12 x15 x16 x17 x26 x29 x30 x31 x32 x34 x35 x36 x37 x38 x39 x40 x49 x50 : Int → Int} {n s f t : Int} (s0 : 0 ≤ s) (s1 : s < 60) (hft : f = 0 ∧ t = 62 ∨ f = 62 ∧ t = 0) (hkk : ∀ z, (∀ j, 0 ≤ j → j < 62 → z (f + j) = lk s.toNat j) → (∀ j, 0 ≤ j → j < 62 → z (t + j) = 0) → SJ g m_Mod_likely d 95 [some (.ref 0), some (.int (ii n)), some (.int (ii 62)), some (.int (ii s)), some (.int (ii f)), some (.int (ii t)), none] [] (MM i0 i6 i8 i9 i10 i13 i14 i18 i19 i20 i21 i22 i23 i24 i25 i27 i28 i33 i42 i43 i44 i45 i46 i47 i48 i51 i52 x1 x2 x3 x4 x5 x7 x11 x12 x15 x16 x17 x26 x29 x30 x31 x32 x34 x35 x36 x37 x38 x39 x40 z x49 x50) 0 0 Q) : ∀ (nn : Nat) (k : Int) (z : Int → Int), (62 - k).toNat = nn → 0 ≤ k → k ≤ 62 → (∀ j, 0 ≤ j → j < 62 → z (f + j) = lk s.toNat j) → (∀ j, 0 ≤ j → j < k → z (t + j) = 0) → SJ g m_Mod_likely d 72 [some (.ref 0), some (.int (ii n)), some (.int (ii 62)), some (.int (ii s)), some (.int (ii f)), some (.int (ii t)), some (.int (ii k))] [] (MM i0 i6 i8 i9 i10 i13 i14 i18 i19 i20 i21 i22 i23 i24 i25 i27 i28 i33 i42 i43 i44 i45 i46 i47 i48 i51 i52 x1 x2 x3 x4 x5 x7 x11 x12 x15 x16 x17 x26 x29 x30 x31 x32 x34 x35 x36 x37 x38 x39 x40 z x49 x50) 0 0 Q := by
  intro nn
  induction nn using Nat.strongRecOn with
  | ind nn ih =>
  intro k z hn k0 k1 zf zt
  refine j_iload d_Mod_likely_72 rfl ?_
  refine j_iload_n d_Mod_likely_74 rfl ?_
  refine z_icmp_ge (t := 95) d_Mod_likely_75 (by decide) (by first | omega | exact hw _ | exact hx _ _ | assumption) (by first | omega | exact hw _ | exact hx _ _ | assumption) (fun h75 => ?_) (fun h75 => ?_)
  · refine SJ.mask [true, true, true, true, true, true, false] ?_
    show SJ _ _ _ _ [_, _, _, _, _, _, none] _ _ _ _ _
    exact hkk z zf (fun j e1 e2 => zt j e1 (by omega))
  · refine j_aload_n d_Mod_likely_78 rfl ?_
    refine mg_parts f_Mod_104 d_Mod_likely_79 ?_
    refine j_iload d_Mod_likely_82 rfl ?_
    refine j_iload d_Mod_likely_84 rfl ?_
    refine z_iadd d_Mod_likely_86 ?_
    refine z_lconst (v := 0) d_Mod_likely_87 (by decide) ?_
    refine ms_parts d_Mod_likely_88 (by omega) (by omega) ?_
    refine z_iinc d_Mod_likely_89 rfl (by decide) ?_
    show SJ _ _ _ _ [_, _, _, _, _, _, _] _ _ _ _ _
    refine j_goto (t := 72) d_Mod_likely_92 (by decide) ?_
    exact ih _ (by omega) _ _ rfl (by omega) (by omega) (fun j e1 e2 => by rw [up_ne (by omega)]; exact zf j e1 e2) (fun j e1 e2 => by by_cases e : j = k; (subst e; rw [up_eq]); (rw [up_ne (by omega)]; exact zt j e1 (by omega)))
theorem lp_likely2 {g : Bool} {d : Nat} {Q : List xM → Option Value → Prop} {i0 i6 i8 i9 i10 i13 i14 i18 i19 i20 i21 i22 i23 i24 i25 i27 i28 i33 i42 i43 i44 i45 i46 i47 i48 i51 i52 : Int} {x1 x2 x3 x4 x5 x7 x11 x12 x15 x16 x17 x26 x29 x30 x31 x32 x34 x35 x36 x37 x38 x39 x40 x49 x50 : Int → Int} {n s f t : Int} (s0 : 0 ≤ s) (s1 : s < 60) (hft : f = 0 ∧ t = 62 ∨ f = 62 ∧ t = 0) (hkk : ∀ z, (∀ j, 0 ≤ j → j < 62 → z (t + j) = lk (s.toNat + 1) j) → SJ g m_Mod_likely d 51 [some (.ref 0), some (.int (ii n)), some (.int (ii 62)), some (.int (ii (s + 1))), none, none, none] [] (MM i0 i6 i8 i9 i10 i13 i14 i18 i19 i20 i21 i22 i23 i24 i25 i27 i28 i33 i42 i43 i44 i45 i46 i47 i48 i51 i52 x1 x2 x3 x4 x5 x7 x11 x12 x15 x16 x17 x26 x29 x30 x31 x32 x34 x35 x36 x37 x38 x39 x40 z x49 x50) 0 0 Q) : ∀ (nn : Nat) (o : Int) (z : Int → Int), (s + 1 - o).toNat = nn → 0 ≤ o → o ≤ s + 1 → (∀ j, 0 ≤ j → j < 62 → z (f + j) = lk s.toNat j) → (∀ j, 0 ≤ j → j < 62 → z (t + j) = lkp s.toNat o j) → SJ g m_Mod_likely d 98 [some (.ref 0), some (.int (ii n)), some (.int (ii 62)), some (.int (ii s)), some (.int (ii f)), some (.int (ii t)), some (.int (ii o))] [] (MM i0 i6 i8 i9 i10 i13 i14 i18 i19 i20 i21 i22 i23 i24 i25 i27 i28 i33 i42 i43 i44 i45 i46 i47 i48 i51 i52 x1 x2 x3 x4 x5 x7 x11 x12 x15 x16 x17 x26 x29 x30 x31 x32 x34 x35 x36 x37 x38 x39 x40 z x49 x50) 0 0 Q := by
  intro nn
  induction nn using Nat.strongRecOn with
  | ind nn ih =>
  intro o z hn o0 o1 zf zt
  refine j_iload d_Mod_likely_98 rfl ?_
  refine j_iload_n d_Mod_likely_100 rfl ?_
  refine z_icmp_gt (t := 177) d_Mod_likely_101 (by decide) (by first | omega | exact hw _ | exact hx _ _ | assumption) (by first | omega | exact hw _ | exact hx _ _ | assumption) (fun h101 => ?_) (fun h101 => ?_)
  · refine z_iinc d_Mod_likely_177 rfl (by decide) ?_
    show SJ _ _ _ _ [_, _, _, _, _, _, _] _ _ _ _ _
    refine j_goto (t := 51) d_Mod_likely_180 (by decide) ?_
    refine SJ.mask [true, true, true, true, false, false, false] ?_
    show SJ _ _ _ _ [_, _, _, _, none, none, none] _ _ _ _ _
    exact hkk z (fun j e1 e2 => by rw [zt j e1 e2, show o = (s.toNat : Int) + 1 by omega, lkp_end e1])
  · have hlk := lk_R s.toNat o
    have hd3 : R64 (lk s.toNat o * 3) := by omega
    refine j_aload_n d_Mod_likely_104 rfl ?_
    refine mg_parts f_Mod_104 d_Mod_likely_105 ?_
    refine j_iload d_Mod_likely_108 rfl ?_
    refine j_iload d_Mod_likely_110 rfl ?_
    refine z_iadd d_Mod_likely_112 ?_
    refine z_iconst d_Mod_likely_113 ?_
    refine z_iadd d_Mod_likely_114 ?_
    refine j_dup2 d_Mod_likely_115 rfl rfl ?_
    refine ml_parts d_Mod_likely_116 (by omega) (by omega) ?_
    refine j_aload_n d_Mod_likely_117 rfl ?_
    refine mg_parts f_Mod_104 d_Mod_likely_118 ?_
    refine j_iload d_Mod_likely_121 rfl ?_
    refine j_iload d_Mod_likely_123 rfl ?_
    refine z_iadd d_Mod_likely_125 ?_
    refine ml_parts d_Mod_likely_126 (by omega) (by omega) ?_
    rw [zf o (by omega) (by omega)]
    refine z_ldc2 (w := 3) d_Mod_likely_127 k_Mod_418 (by decide) ?_
    refine z_lmul d_Mod_likely_130 ?_
    refine z_ldc2 (w := 6) d_Mod_likely_131 k_Mod_456 (by decide) ?_
    refine z_ldiv d_Mod_likely_134 (by omega) (by omega) (by decide) ?_
    refine z_ladd d_Mod_likely_135 ?_
    refine ms_parts d_Mod_likely_136 (by omega) (by omega) ?_
    refine j_iload d_Mod_likely_137 rfl ?_
    refine z_if_le (t := 171) d_Mod_likely_139 (by decide) (by first | omega | exact hw _ | exact hx _ _ | assumption) (fun h139 => ?_) (fun h139 => ?_)
    · refine z_iinc d_Mod_likely_171 rfl (by decide) ?_
      show SJ _ _ _ _ [_, _, _, _, _, _, _] _ _ _ _ _
      refine j_goto (t := 98) d_Mod_likely_174 (by decide) ?_
      first
      | (exact ih _ (by omega) _ _ rfl (by omega) (by omega) (fun j e1 e2 => by rw [up_ne (by omega), up_ne (by omega)]; exact zf j e1 e2) (fun j e1 e2 => by rw [lkp_s (by omega) e1, ← zt j e1 e2]; by_cases c1 : j = o + 1; (rw [if_pos c1, up_ne (by omega), c1, show t + (o + 1) = t + o + 1 by omega, up_eq]); (rw [if_neg c1]; by_cases c2 : j = o - 1; (rw [if_pos c2, c2, show t + (o - 1) = t + o - 1 by omega, up_eq]); (rw [if_neg c2, up_ne (by omega), up_ne (by omega)]))))
      | (exact ih _ (by omega) _ _ rfl (by omega) (by omega) (fun j e1 e2 => by rw [up_ne (by omega)]; exact zf j e1 e2) (fun j e1 e2 => by rw [lkp_s (by omega) e1, ← zt j e1 e2]; by_cases c1 : j = o + 1; (rw [if_pos c1, c1, show t + (o + 1) = t + o + 1 by omega, up_eq]); (rw [if_neg c1, if_neg (by omega), up_ne (by omega)])))
    · refine j_aload_n d_Mod_likely_142 rfl ?_
      refine mg_parts f_Mod_104 d_Mod_likely_143 ?_
      refine j_iload d_Mod_likely_146 rfl ?_
      refine j_iload d_Mod_likely_148 rfl ?_
      refine z_iadd d_Mod_likely_150 ?_
      refine z_iconst d_Mod_likely_151 ?_
      refine z_isub d_Mod_likely_152 ?_
      refine j_dup2 d_Mod_likely_153 rfl rfl ?_
      refine ml_parts d_Mod_likely_154 (by omega) (by omega) ?_
      refine j_aload_n d_Mod_likely_155 rfl ?_
      refine mg_parts f_Mod_104 d_Mod_likely_156 ?_
      refine j_iload d_Mod_likely_159 rfl ?_
      refine j_iload d_Mod_likely_161 rfl ?_
      refine z_iadd d_Mod_likely_163 ?_
      refine ml_parts d_Mod_likely_164 (by omega) (by omega) ?_
      rw [up_ne (by omega), up_ne (by omega), zf o (by omega) (by omega)]
      refine z_ldc2 (w := 6) d_Mod_likely_165 k_Mod_456 (by decide) ?_
      refine z_ldiv d_Mod_likely_168 (by omega) (by omega) (by decide) ?_
      refine z_ladd d_Mod_likely_169 ?_
      refine ms_parts d_Mod_likely_170 (by omega) (by omega) ?_
      refine z_iinc d_Mod_likely_171 rfl (by decide) ?_
      show SJ _ _ _ _ [_, _, _, _, _, _, _] _ _ _ _ _
      refine j_goto (t := 98) d_Mod_likely_174 (by decide) ?_
      first
      | (exact ih _ (by omega) _ _ rfl (by omega) (by omega) (fun j e1 e2 => by rw [up_ne (by omega), up_ne (by omega)]; exact zf j e1 e2) (fun j e1 e2 => by rw [lkp_s (by omega) e1, ← zt j e1 e2]; by_cases c1 : j = o + 1; (rw [if_pos c1, up_ne (by omega), c1, show t + (o + 1) = t + o + 1 by omega, up_eq]); (rw [if_neg c1]; by_cases c2 : j = o - 1; (rw [if_pos c2, c2, show t + (o - 1) = t + o - 1 by omega, up_eq]); (rw [if_neg c2, up_ne (by omega), up_ne (by omega)]))))
      | (exact ih _ (by omega) _ _ rfl (by omega) (by omega) (fun j e1 e2 => by rw [up_ne (by omega)]; exact zf j e1 e2) (fun j e1 e2 => by rw [lkp_s (by omega) e1, ← zt j e1 e2]; by_cases c1 : j = o + 1; (rw [if_pos c1, c1, show t + (o + 1) = t + o + 1 by omega, up_eq]); (rw [if_neg c1, if_neg (by omega), up_ne (by omega)])))
theorem lp_likely {g : Bool} {d : Nat} {Q : List xM → Option Value → Prop} {i0 i6 i8 i9 i10 i13 i14 i18 i19 i20 i21 i22 i23 i24 i25 i27 i28 i33 i42 i43 i44 i45 i46 i47 i48 i51 i52 : Int} {x1 x2 x3 x4 x5 x7 x11 x12 x15 x16 x17 x26 x29 x30 x31 x32 x34 x35 x36 x37 x38 x39 x40 x49 x50 : Int → Int} {n : Int} (n0 : 0 ≤ n) (n1 : n ≤ 60) (hQ : ∀ z, Q (MM i0 i6 i8 i9 i10 i13 i14 i18 i19 i20 i21 i22 i23 i24 i25 i27 i28 i33 i42 i43 i44 i45 i46 i47 i48 i51 i52 x1 x2 x3 x4 x5 x7 x11 x12 x15 x16 x17 x26 x29 x30 x31 x32 x34 x35 x36 x37 x38 x39 x40 z x49 x50) (some (.long (ll (lk n.toNat 0))))) : ∀ (nn : Nat) (s : Int) (z : Int → Int), (n - s).toNat = nn → 0 ≤ s → s ≤ n → (∀ j, 0 ≤ j → j < 62 → z (62 * s.tmod 2 + j) = lk s.toNat j) → SJ g m_Mod_likely d 51 [some (.ref 0), some (.int (ii n)), some (.int (ii 62)), some (.int (ii s)), none, none, none] [] (MM i0 i6 i8 i9 i10 i13 i14 i18 i19 i20 i21 i22 i23 i24 i25 i27 i28 i33 i42 i43 i44 i45 i46 i47 i48 i51 i52 x1 x2 x3 x4 x5 x7 x11 x12 x15 x16 x17 x26 x29 x30 x31 x32 x34 x35 x36 x37 x38 x39 x40 z x49 x50) 0 0 Q := by
  intro nn
  induction nn using Nat.strongRecOn with
  | ind nn ih =>
  intro s z hn s0 s1 zs
  have hm2 : s.tmod 2 = 0 ∧ (s + 1).tmod 2 = 1 ∨ s.tmod 2 = 1 ∧ (s + 1).tmod 2 = 0 := by
    rw [Int.tmod_eq_emod_of_nonneg (by omega), Int.tmod_eq_emod_of_nonneg (by omega)]
    omega
  refine j_iload_n d_Mod_likely_51 rfl ?_
  refine j_iload_n d_Mod_likely_52 rfl ?_
  refine z_icmp_ge (t := 183) d_Mod_likely_53 (by decide) (by first | omega | exact hw _ | exact hx _ _ | assumption) (by first | omega | exact hw _ | exact hx _ _ | assumption) (fun h53 => ?_) (fun h53 => ?_)
  · have e : s = n := by omega
    subst e
    refine j_aload_n d_Mod_likely_183 rfl ?_
    refine mg_parts f_Mod_104 d_Mod_likely_184 ?_
    refine j_iload_n d_Mod_likely_187 rfl ?_
    refine j_iload_n d_Mod_likely_188 rfl ?_
    refine z_iconst d_Mod_likely_189 ?_
    refine z_irem d_Mod_likely_190 (by first | omega | exact hw _ | exact hx _ _ | assumption) (by first | omega | exact hw _ | exact hx _ _ | assumption) (by decide) ?_
    refine z_imul d_Mod_likely_191 ?_
    refine ml_parts d_Mod_likely_192 (by omega) (by omega) ?_
    exact z_lret rfl d_Mod_likely_193 (by have := zs 0 (by omega) (by omega); rw [show 62 * s.tmod 2 + 0 = 62 * s.tmod 2 by omega] at this; exact this) (hQ z)
  · refine j_iload_n d_Mod_likely_56 rfl ?_
    refine j_iload_n d_Mod_likely_57 rfl ?_
    refine z_iconst d_Mod_likely_58 ?_
    refine z_irem d_Mod_likely_59 (by first | omega | exact hw _ | exact hx _ _ | assumption) (by first | omega | exact hw _ | exact hx _ _ | assumption) (by decide) ?_
    refine z_imul d_Mod_likely_60 ?_
    refine j_istore d_Mod_likely_61 (by decide) ?_
    show SJ _ _ _ _ [_, _, _, _, _, _, _] _ _ _ _ _
    refine j_iload_n d_Mod_likely_63 rfl ?_
    refine j_iload d_Mod_likely_64 rfl ?_
    refine z_isub d_Mod_likely_66 ?_
    refine j_istore d_Mod_likely_67 (by decide) ?_
    show SJ _ _ _ _ [_, _, _, _, _, _, _] _ _ _ _ _
    refine z_iconst d_Mod_likely_69 ?_
    refine j_istore d_Mod_likely_70 (by decide) ?_
    show SJ _ _ _ _ [_, _, _, _, _, _, _] _ _ _ _ _
    refine lp_likely1 (n := n) (s := s) (f := 62 * s.tmod 2) (t := 62 - 62 * s.tmod 2) s0 (by omega) (by omega) (fun z2 h2 h3 => ?_) _ 0 z rfl (by omega) (by omega) zs (fun j e1 e2 => by omega)
    refine z_iconst d_Mod_likely_95 ?_
    refine j_istore d_Mod_likely_96 (by decide) ?_
    show SJ _ _ _ _ [_, _, _, _, _, _, _] _ _ _ _ _
    refine lp_likely2 (n := n) (s := s) (f := 62 * s.tmod 2) (t := 62 - 62 * s.tmod 2) s0 (by omega) (by omega) (fun z3 h4 => ?_) _ 0 z2 rfl (by omega) (by omega) h2 (fun j e1 e2 => by rw [h3 j e1 e2, lkp_0 e1])
    exact ih _ (by omega) _ _ rfl (by omega) (by omega) (fun j e1 e2 => by rw [show 62 * (s + 1).tmod 2 + j = 62 - 62 * s.tmod 2 + j by omega, h4 j e1 e2, show (s + 1).toNat = s.toNat + 1 by omega])
theorem t_Mod_likely {g : Bool} {d : Nat} {Q : List xM → Option Value → Prop} {i0 i6 i8 i9 i10 i13 i14 i18 i19 i20 i21 i22 i23 i24 i25 i27 i28 i33 i42 i43 i44 i45 i46 i47 i48 i51 i52 : Int} {x1 x2 x3 x4 x5 x7 x11 x12 x15 x16 x17 x26 x29 x30 x31 x32 x34 x35 x36 x37 x38 x39 x40 x41 x49 x50 : Int → Int} {n : Int} (r1 : R32 n) (hnx : ¬ (0 ≤ n ∧ n ≤ 60) → Q (MM i0 i6 i8 i9 i10 i13 i14 i18 i19 i20 i21 i22 i23 i24 i25 i27 i28 i33 i42 i43 i44 i45 i46 i47 i48 i51 i52 x1 x2 x3 x4 x5 x7 x11 x12 x15 x16 x17 x26 x29 x30 x31 x32 x34 x35 x36 x37 x38 x39 x40 x41 x49 x50) (some (.long (ll (-1))))) (hQ : 0 ≤ n ∧ n ≤ 60 → ∀ z, Q (MM i0 i6 i8 i9 i10 i13 i14 i18 i19 i20 i21 i22 i23 i24 i25 i27 i28 i33 i42 i43 i44 i45 i46 i47 i48 i51 i52 x1 x2 x3 x4 x5 x7 x11 x12 x15 x16 x17 x26 x29 x30 x31 x32 x34 x35 x36 x37 x38 x39 x40 z x49 x50) (some (.long (ll (lk n.toNat 0))))) : CT g m_Mod_likely (d + 1) [.ref 0, .int (ii n)] (MM i0 i6 i8 i9 i10 i13 i14 i18 i19 i20 i21 i22 i23 i24 i25 i27 i28 i33 i42 i43 i44 i45 i46 i47 i48 i51 i52 x1 x2 x3 x4 x5 x7 x11 x12 x15 x16 x17 x26 x29 x30 x31 x32 x34 x35 x36 x37 x38 x39 x40 x41 x49 x50) 0 0 Q := by
  refine CT.of (by decide) (Nat.le_of_ble_eq_true rfl) ?_
  show SJ _ _ _ _ [some (.ref 0), some (.int (ii n)), none, none, none, none, none] [] _ _ _ _
  refine j_iload_n d_Mod_likely_0 rfl ?_
  refine z_iconst d_Mod_likely_1 ?_
  refine z_bipush d_Mod_likely_2 (by decide) ?_
  refine s_call3 d_Mod_likely_4 c_Mod_18 (Nat.le_of_ble_eq_true rfl) (t_Mod_lies (by first | omega | exact hw _ | exact hx _ _ | assumption) (by first | omega | exact hw _ | exact hx _ _ | assumption) (by first | omega | exact hw _ | exact hx _ _ | assumption) (fun h4 => ?_) (fun h4 => ?_))
  · refine z_if_ne (t := 14) d_Mod_likely_7 (by decide) (by first | omega | exact hw _ | exact hx _ _ | assumption) (fun _ => ?_) (fun h => absurd h (by decide))
    refine z_bipush d_Mod_likely_14 (by decide) ?_
    refine j_istore_n d_Mod_likely_16 (by decide) ?_
    show SJ _ _ _ _ [_, _, _, _, _, _, _] _ _ _ _ _
    refine z_iconst d_Mod_likely_17 ?_
    refine j_istore_n d_Mod_likely_18 (by decide) ?_
    show SJ _ _ _ _ [_, _, _, _, _, _, _] _ _ _ _ _
    refine lp_likely0 (fun z hz => ?_) _ 0 _ rfl (by omega) (by omega) (fun j e1 e2 => by omega)
    refine z_iconst d_Mod_likely_49 ?_
    refine j_istore_n d_Mod_likely_50 (by decide) ?_
    show SJ _ _ _ _ [_, _, _, _, _, _, _] _ _ _ _ _
    exact lp_likely (by omega) (by omega) (hQ (by omega)) _ 0 z rfl (by omega) (by omega) (fun j e1 e2 => by rw [show 62 * (0 : Int).tmod 2 + j = j by rw [show (0 : Int).tmod 2 = 0 by decide]; omega, hz j e1 (by omega)]; rfl)
  · refine z_if_ne (t := 14) d_Mod_likely_7 (by decide) (by first | omega | exact hw _ | exact hx _ _ | assumption) (fun h => absurd h (by decide)) (fun _ => ?_)
    refine z_ldc2 (w := -1) d_Mod_likely_10 k_Mod_420 (by decide) ?_
    exact z_lret rfl d_Mod_likely_13 rfl (hnx (by omega))
