/-! THE LAW, WHOLE -/
section QW
variable {E : (Nat → Nat) → Prop} {y : xY} {d pc : Nat} {L : List (Option Value)} {st : List Value} {mem : List xM} {bc bs : Nat} {Q : List xM → Option Value → Prop}
theorem qw_Hou {idx : Nat} (hd : decode y.2.1 pc = .ok (.new idx, 3)) (w1 : Cond.classLink y.1.cls idx "BracketHouse" ∈ gw) (hb1 : 1 ≤ bc) (hb2 : 17 ≤ bs) (kk : SX E true y d (pc + 3) L (.ref mem.length :: st) (mem ++ [.inr (11, [.null, .null, .null, .null, .null, .null, .null, .null, .null, .null, .null, .null, .null, .int (ii 0), .int (ii 0), .int (ii 0), .int (ii 0)])]) (bc - 1) (bs - 17) Q) : SX E true y d pc L st mem bc bs Q :=
  q_new (ci := 11) (N := 17) (C := "BracketHouse") (T := T11) hd rfl (fun k => ([.object "BracketHouse$State", .object "BracketHouse$State", .array (.object "BracketHouse$State"), .array .boolean, .object "BracketHouse$Tape", .object "BracketHouse$Grammar", .object "BracketHouse$Asker", .object "BracketHouse$Deeds", .object "BracketHouse$Deeds", .object "BracketHouse$Runner", .object "BracketHouse$Paper", .object "BracketHouse$Numbering", .array .int, .boolean, .int, .int, .int] : List FieldType).getD k .int) (by decide +kernel) (fun ad ex j hj => by
    match j, hj with
    | 0, _ => rfl
    | 1, _ => rfl
    | 2, _ => rfl
    | 3, _ => rfl
    | 4, _ => rfl
    | 5, _ => rfl
    | 6, _ => rfl
    | 7, _ => rfl
    | 8, _ => rfl
    | 9, _ => rfl
    | 10, _ => rfl
    | 11, _ => rfl
    | 12, _ => rfl
    | 13, _ => rfl
    | 14, _ => rfl
    | 15, _ => rfl
    | 16, _ => rfl
    | n + 17, h => exact absurd h (by omega)) w1 is_Hou in_Hou hb1 hb2 kk
theorem qw_Mod {idx : Nat} (hd : decode y.2.1 pc = .ok (.new idx, 3)) (w1 : Cond.classLink y.1.cls idx "BracketHouseModel" ∈ gw) (hb1 : 1 ≤ bc) (hb2 : 53 ≤ bs) (kk : SX E true y d (pc + 3) L (.ref mem.length :: st) (mem ++ [.inr (12, [.int (ii 0), .null, .null, .null, .null, .null, .int (ii 0), .null, .int (ii 0), .int (ii 0), .int (ii 0), .null, .null, .int (ii 0), .int (ii 0), .null, .null, .null, .int (ii 0), .int (ii 0), .int (ii 0), .int (ii 0), .int (ii 0), .int (ii 0), .int (ii 0), .int (ii 0), .null, .int (ii 0), .int (ii 0), .null, .null, .null, .null, .int (ii 0), .null, .null, .null, .null, .null, .null, .null, .null, .int (ii 0), .int (ii 0), .int (ii 0), .int (ii 0), .int (ii 0), .int (ii 0), .int (ii 0), .null, .null, .int (ii 0), .int (ii 0)])]) (bc - 1) (bs - 53) Q) : SX E true y d pc L st mem bc bs Q :=
  q_new (ci := 12) (N := 53) (C := "BracketHouseModel") (T := T12) hd rfl (fun k => ([.int, .array .int, .array .int, .array .int, .array .boolean, .array .int, .int, .array .byte, .int, .int, .boolean, .array .byte, .array .int, .int, .int, .array .int, .array .int, .array .int, .int, .int, .int, .int, .int, .int, .boolean, .boolean, .array .int, .int, .int, .array .int, .array .int, .array .int, .array .int, .int, .array .int, .array .int, .array .int, .array .boolean, .array .long, .array .int, .array .int, .array .long, .int, .int, .int, .int, .int, .boolean, .boolean, .array .long, .array .int, .int, .int] : List FieldType).getD k .int) (by decide +kernel) (fun ad ex j hj => by
    match j, hj with
    | 0, _ => rfl
    | 1, _ => rfl
    | 2, _ => rfl
    | 3, _ => rfl
    | 4, _ => rfl
    | 5, _ => rfl
    | 6, _ => rfl
    | 7, _ => rfl
    | 8, _ => rfl
    | 9, _ => rfl
    | 10, _ => rfl
    | 11, _ => rfl
    | 12, _ => rfl
    | 13, _ => rfl
    | 14, _ => rfl
    | 15, _ => rfl
    | 16, _ => rfl
    | 17, _ => rfl
    | 18, _ => rfl
    | 19, _ => rfl
    | 20, _ => rfl
    | 21, _ => rfl
    | 22, _ => rfl
    | 23, _ => rfl
    | 24, _ => rfl
    | 25, _ => rfl
    | 26, _ => rfl
    | 27, _ => rfl
    | 28, _ => rfl
    | 29, _ => rfl
    | 30, _ => rfl
    | 31, _ => rfl
    | 32, _ => rfl
    | 33, _ => rfl
    | 34, _ => rfl
    | 35, _ => rfl
    | 36, _ => rfl
    | 37, _ => rfl
    | 38, _ => rfl
    | 39, _ => rfl
    | 40, _ => rfl
    | 41, _ => rfl
    | 42, _ => rfl
    | 43, _ => rfl
    | 44, _ => rfl
    | 45, _ => rfl
    | 46, _ => rfl
    | 47, _ => rfl
    | 48, _ => rfl
    | 49, _ => rfl
    | 50, _ => rfl
    | 51, _ => rfl
    | 52, _ => rfl
    | n + 53, h => exact absurd h (by omega)) w1 is_Mod in_Mod hb1 hb2 kk
end QW
theorem ofNat_ii (n : Nat) : Int32.ofNat n = ii (n : Int) := by
  unfold ii
  exact (Int32.ofInt_eq_ofNat).symm
theorem law_loop {d N : Nat} {sc : Nat → Int32} {Q : List xM → Option Value → Prop} (hN : N ≤ 3072) (hQ : ∀ mem, Q mem (some (.int 1))) : ∀ (r : Nat) (i : Int) (mem : List xM) (bc bs : Nat), INVm mem → 0 ≤ i → i ≤ 3072 → (N : Int) < i + 6 * (r : Int) + 6 → 8 * r ≤ bc → 941 * r ≤ bs → SX (LwE N sc) true m_Law (d + 93) 18 (LL i) [] mem bc bs Q := by
  intro r
  induction r with
  | zero =>
    intro i mem bc bs hI h0 h1 hr hb1 hb2
    have hR1 : R32 ((N : Int) - 6) := ⟨by omega, by omega⟩
    have hR2 : R32 i := ⟨by omega, by omega⟩
    refine q_iload_n d_Law_18 rfl ?_
    refine q_aload_nX d_Law_19 rfl ?_
    refine q_slen (v := ii (N : Int)) d_Law_20 (fun ex hE => by rw [hE.1]; exact ofNat_ii N) ?_
    refine q_bipush (v := ii 6) d_Law_21 (by decide) ?_
    refine q_isub d_Law_23 ?_
    rw [ii_sub]
    refine q_icmp_gt (t := 1109) d_Law_24 rfl (fun _ => ?_) (fun h => absurd ((ii_lt hR1 hR2).mpr (by omega)) h)
    refine q_iconst (v := 1) d_Law_1109 rfl ?_
    exact q_zreturn (ty := .boolean) rfl rfl d_Law_1110 (hQ _)
  | succ r ih =>
    intro i mem bc bs hI h0 h1 hr hb1 hb2
    have hR1 : R32 ((N : Int) - 6) := ⟨by omega, by omega⟩
    have hR2 : R32 i := ⟨by omega, by omega⟩
    refine q_iload_n d_Law_18 rfl ?_
    refine q_aload_nX d_Law_19 rfl ?_
    refine q_slen (v := ii (N : Int)) d_Law_20 (fun ex hE => by rw [hE.1]; exact ofNat_ii N) ?_
    refine q_bipush (v := ii 6) d_Law_21 (by decide) ?_
    refine q_isub d_Law_23 ?_
    rw [ii_sub]
    refine q_icmp_gt (t := 1109) d_Law_24 rfl (fun _ => ?_) (fun h => ?_)
    · refine q_iconst (v := 1) d_Law_1109 rfl ?_
      exact q_zreturn (ty := .boolean) rfl rfl d_Law_1110 (hQ _)
    · have hle : i + 6 ≤ (N : Int) := by
        have : ¬ ((N : Int) - 6 < i) := fun hlt => h ((ii_lt hR1 hR2).mpr hlt)
        omega
      have next : ∀ mem2, INVm mem2 → SX (LwE N sc) true m_Law (d + 93) 1103 (LL i) [] mem2 (bc - 8) (bs - 941) Q := fun mem2 hI2 => by
        refine q_iinc (v := ii (i + 6)) d_Law_1103 rfl (ii_add i 6) (by decide) ?_
        show SX _ _ _ _ _ (LL (i + 6)) _ _ _ _ _
        refine q_goto (t := 18) d_Law_1106 rfl ?_
        exact ih (i + 6) mem2 _ _ hI2 (by omega) (by omega) (by omega) (by omega) (by omega)
      refine q_aload_nX d_Law_27 rfl ?_
      refine q_iload_n d_Law_28 rfl ?_
      refine q_get h0 (by omega) hN d_Law_29 ?_
      refine q_bipush (v := ii 63) d_Law_30 (by decide) ?_
      refine q_iand d_Law_32 ?_
      by_cases hin : 0 ≤ (ii (sv sc i) &&& ii 63).toInt ∧ (ii (sv sc i) &&& ii 63).toInt ≤ 35
      case neg => exact q_tabOut (t := 1103) d_Law_33 (by omega) rfl (q_less (by omega) (by omega) (next mem hI))
      have hdis : (ii (sv sc i) &&& ii 63).toInt = 0 ∨ (ii (sv sc i) &&& ii 63).toInt = 1 ∨ (ii (sv sc i) &&& ii 63).toInt = 2 ∨ (ii (sv sc i) &&& ii 63).toInt = 3 ∨ (ii (sv sc i) &&& ii 63).toInt = 4 ∨ (ii (sv sc i) &&& ii 63).toInt = 5 ∨ (ii (sv sc i) &&& ii 63).toInt = 6 ∨ (ii (sv sc i) &&& ii 63).toInt = 7 ∨ (ii (sv sc i) &&& ii 63).toInt = 8 ∨ (ii (sv sc i) &&& ii 63).toInt = 9 ∨ (ii (sv sc i) &&& ii 63).toInt = 10 ∨ (ii (sv sc i) &&& ii 63).toInt = 11 ∨ (ii (sv sc i) &&& ii 63).toInt = 12 ∨ (ii (sv sc i) &&& ii 63).toInt = 13 ∨ (ii (sv sc i) &&& ii 63).toInt = 14 ∨ (ii (sv sc i) &&& ii 63).toInt = 15 ∨ (ii (sv sc i) &&& ii 63).toInt = 16 ∨ (ii (sv sc i) &&& ii 63).toInt = 17 ∨ (ii (sv sc i) &&& ii 63).toInt = 18 ∨ (ii (sv sc i) &&& ii 63).toInt = 19 ∨ (ii (sv sc i) &&& ii 63).toInt = 20 ∨ (ii (sv sc i) &&& ii 63).toInt = 21 ∨ (ii (sv sc i) &&& ii 63).toInt = 22 ∨ (ii (sv sc i) &&& ii 63).toInt = 23 ∨ (ii (sv sc i) &&& ii 63).toInt = 24 ∨ (ii (sv sc i) &&& ii 63).toInt = 25 ∨ (ii (sv sc i) &&& ii 63).toInt = 26 ∨ (ii (sv sc i) &&& ii 63).toInt = 27 ∨ (ii (sv sc i) &&& ii 63).toInt = 28 ∨ (ii (sv sc i) &&& ii 63).toInt = 29 ∨ (ii (sv sc i) &&& ii 63).toInt = 30 ∨ (ii (sv sc i) &&& ii 63).toInt = 31 ∨ (ii (sv sc i) &&& ii 63).toInt = 32 ∨ (ii (sv sc i) &&& ii 63).toInt = 33 ∨ (ii (sv sc i) &&& ii 63).toInt = 34 ∨ (ii (sv sc i) &&& ii 63).toInt = 35 := by omega
      rcases hdis with e | e | e | e | e | e | e | e | e | e | e | e | e | e | e | e | e | e | e | e | e | e | e | e | e | e | e | e | e | e | e | e | e | e | e | e
      · exact q_tabIn (t := 192) (o := 159) d_Law_33 (by rw [e]; decide) (by rw [e]; decide) (by rw [e]; rfl) rfl (lwc_0 hI h0 (by omega) hN (by omega) (by omega) next)
      · exact q_tabIn (t := 225) (o := 192) d_Law_33 (by rw [e]; decide) (by rw [e]; decide) (by rw [e]; rfl) rfl (lwc_1 hI h0 (by omega) hN (by omega) (by omega) next)
      · exact q_tabIn (t := 288) (o := 255) d_Law_33 (by rw [e]; decide) (by rw [e]; decide) (by rw [e]; rfl) rfl (lwc_2 hI h0 (by omega) hN (by omega) (by omega) next)
      · exact q_tabIn (t := 311) (o := 278) d_Law_33 (by rw [e]; decide) (by rw [e]; decide) (by rw [e]; rfl) rfl (lwc_3 hI h0 (by omega) hN (by omega) (by omega) next)
      · exact q_tabIn (t := 324) (o := 291) d_Law_33 (by rw [e]; decide) (by rw [e]; decide) (by rw [e]; rfl) rfl (lwc_4 hI h0 (by omega) hN (by omega) (by omega) next)
      · exact q_tabIn (t := 337) (o := 304) d_Law_33 (by rw [e]; decide) (by rw [e]; decide) (by rw [e]; rfl) rfl (lwc_5 hI h0 (by omega) hN (by omega) (by omega) next)
      · exact q_tabIn (t := 350) (o := 317) d_Law_33 (by rw [e]; decide) (by rw [e]; decide) (by rw [e]; rfl) rfl (lwc_6 hI h0 (by omega) hN (by omega) (by omega) next)
      · exact q_tabIn (t := 363) (o := 330) d_Law_33 (by rw [e]; decide) (by rw [e]; decide) (by rw [e]; rfl) rfl (lwc_7 hI h0 (by omega) hN (by omega) (by omega) next)
      · exact q_tabIn (t := 376) (o := 343) d_Law_33 (by rw [e]; decide) (by rw [e]; decide) (by rw [e]; rfl) rfl (lwc_8 hI h0 (by omega) hN (by omega) (by omega) next)
      · exact q_tabIn (t := 389) (o := 356) d_Law_33 (by rw [e]; decide) (by rw [e]; decide) (by rw [e]; rfl) rfl (lwc_9 hI h0 (by omega) hN (by omega) (by omega) next)
      · exact q_tabIn (t := 412) (o := 379) d_Law_33 (by rw [e]; decide) (by rw [e]; decide) (by rw [e]; rfl) rfl (lwc_10 hI h0 (by omega) hN (by omega) (by omega) next)
      · exact q_tabIn (t := 455) (o := 422) d_Law_33 (by rw [e]; decide) (by rw [e]; decide) (by rw [e]; rfl) rfl (lwc_11 hI h0 (by omega) hN (by omega) (by omega) next)
      · exact q_tabIn (t := 488) (o := 455) d_Law_33 (by rw [e]; decide) (by rw [e]; decide) (by rw [e]; rfl) rfl (lwc_12 hI h0 (by omega) hN (by omega) (by omega) next)
      · exact q_tabIn (t := 511) (o := 478) d_Law_33 (by rw [e]; decide) (by rw [e]; decide) (by rw [e]; rfl) rfl (lwc_13 hI h0 (by omega) hN (by omega) (by omega) next)
      · exact q_tabIn (t := 544) (o := 511) d_Law_33 (by rw [e]; decide) (by rw [e]; decide) (by rw [e]; rfl) rfl (lwc_14 hI h0 (by omega) hN (by omega) (by omega) next)
      · exact q_tabIn (t := 557) (o := 524) d_Law_33 (by rw [e]; decide) (by rw [e]; decide) (by rw [e]; rfl) rfl (lwc_15 hI h0 (by omega) hN (by omega) (by omega) next)
      · exact q_tabIn (t := 570) (o := 537) d_Law_33 (by rw [e]; decide) (by rw [e]; decide) (by rw [e]; rfl) rfl (lwc_16 hI h0 (by omega) hN (by omega) (by omega) next)
      · exact q_tabIn (t := 603) (o := 570) d_Law_33 (by rw [e]; decide) (by rw [e]; decide) (by rw [e]; rfl) rfl (lwc_17 hI h0 (by omega) hN (by omega) (by omega) next)
      · exact q_tabIn (t := 616) (o := 583) d_Law_33 (by rw [e]; decide) (by rw [e]; decide) (by rw [e]; rfl) rfl (lwc_18 hI h0 (by omega) hN (by omega) (by omega) next)
      · exact q_tabIn (t := 649) (o := 616) d_Law_33 (by rw [e]; decide) (by rw [e]; decide) (by rw [e]; rfl) rfl (lwc_19 hI h0 (by omega) hN (by omega) (by omega) next)
      · exact q_tabIn (t := 672) (o := 639) d_Law_33 (by rw [e]; decide) (by rw [e]; decide) (by rw [e]; rfl) rfl (lwc_20 hI h0 (by omega) hN (by omega) (by omega) next)
      · exact q_tabIn (t := 695) (o := 662) d_Law_33 (by rw [e]; decide) (by rw [e]; decide) (by rw [e]; rfl) rfl (lwc_21 hI h0 (by omega) hN (by omega) (by omega) next)
      · exact q_tabIn (t := 718) (o := 685) d_Law_33 (by rw [e]; decide) (by rw [e]; decide) (by rw [e]; rfl) rfl (lwc_22 hI h0 (by omega) hN (by omega) (by omega) next)
      · exact q_tabIn (t := 741) (o := 708) d_Law_33 (by rw [e]; decide) (by rw [e]; decide) (by rw [e]; rfl) rfl (lwc_23 hI h0 (by omega) hN (by omega) (by omega) next)
      · exact q_tabIn (t := 775) (o := 742) d_Law_33 (by rw [e]; decide) (by rw [e]; decide) (by rw [e]; rfl) rfl (lwc_24 hI h0 (by omega) hN (by omega) (by omega) next)
      · exact q_tabIn (t := 848) (o := 815) d_Law_33 (by rw [e]; decide) (by rw [e]; decide) (by rw [e]; rfl) rfl (lwc_25 hI h0 (by omega) hN (by omega) (by omega) next)
      · exact q_tabIn (t := 862) (o := 829) d_Law_33 (by rw [e]; decide) (by rw [e]; decide) (by rw [e]; rfl) rfl (lwc_26 hI h0 (by omega) hN (by omega) (by omega) next)
      · exact q_tabIn (t := 885) (o := 852) d_Law_33 (by rw [e]; decide) (by rw [e]; decide) (by rw [e]; rfl) rfl (lwc_27 hI h0 (by omega) hN (by omega) (by omega) next)
      · exact q_tabIn (t := 918) (o := 885) d_Law_33 (by rw [e]; decide) (by rw [e]; decide) (by rw [e]; rfl) rfl (lwc_28 hI h0 (by omega) hN (by omega) (by omega) next)
      · exact q_tabIn (t := 942) (o := 909) d_Law_33 (by rw [e]; decide) (by rw [e]; decide) (by rw [e]; rfl) rfl (lwc_29 hI h0 (by omega) hN (by omega) (by omega) next)
      · exact q_tabIn (t := 965) (o := 932) d_Law_33 (by rw [e]; decide) (by rw [e]; decide) (by rw [e]; rfl) rfl (lwc_30 hI h0 (by omega) hN (by omega) (by omega) next)
      · exact q_tabIn (t := 998) (o := 965) d_Law_33 (by rw [e]; decide) (by rw [e]; decide) (by rw [e]; rfl) rfl (lwc_31 hI h0 (by omega) hN (by omega) (by omega) next)
      · exact q_tabIn (t := 1021) (o := 988) d_Law_33 (by rw [e]; decide) (by rw [e]; decide) (by rw [e]; rfl) rfl (lwc_32 hI h0 (by omega) hN (by omega) (by omega) next)
      · exact q_tabIn (t := 1044) (o := 1011) d_Law_33 (by rw [e]; decide) (by rw [e]; decide) (by rw [e]; rfl) rfl (lwc_33 hI h0 (by omega) hN (by omega) (by omega) next)
      · exact q_tabIn (t := 1067) (o := 1034) d_Law_33 (by rw [e]; decide) (by rw [e]; decide) (by rw [e]; rfl) rfl (lwc_34 hI h0 (by omega) hN (by omega) (by omega) next)
      · exact q_tabIn (t := 1090) (o := 1057) d_Law_33 (by rw [e]; decide) (by rw [e]; decide) (by rw [e]; rfl) rfl (lwc_35 hI h0 (by omega) hN (by omega) (by omega) next)
theorem MM0_tail : MM0 = .inr (12, MF 0 0 0 0 0 0 (-1) 0 0 0 0 0 0 0 0 0 0 0 (-1) 0 0 0 0 0 0 (-1) 0) :: ([] ++ MM0.tail) := rfl
theorem sg148 : sgl [148] 148 = sgM := by
  funext i
  cases i with
  | zero => rfl
  | succ i => rfl
theorem mod_re : r_e (sgl [148] 148) (.inr (12, [.int (ii 0), .null, .null, .null, .null, .null, .int (ii 0), .null, .int (ii 0), .int (ii 0), .int (ii 0), .null, .null, .int (ii 0), .int (ii 0), .null, .null, .null, .int (ii 0), .int (ii 0), .int (ii 0), .int (ii 0), .int (ii 0), .int (ii 0), .int (ii 0), .int (ii 0), .null, .int (ii 0), .int (ii 0), .null, .null, .null, .null, .int (ii 0), .null, .null, .null, .null, .null, .null, .null, .null, .int (ii 0), .int (ii 0), .int (ii 0), .int (ii 0), .int (ii 0), .int (ii 0), .int (ii 0), .null, .null, .int (ii 0), .int (ii 0)])) = .inr (12, [.int (ii 0), .null, .null, .null, .null, .null, .int (ii 0), .null, .int (ii 0), .int (ii 0), .int (ii 0), .null, .null, .int (ii 0), .int (ii 0), .null, .null, .null, .int (ii 0), .int (ii 0), .int (ii 0), .int (ii 0), .int (ii 0), .int (ii 0), .int (ii 0), .int (ii 0), .null, .int (ii 0), .int (ii 0), .null, .null, .null, .null, .int (ii 0), .null, .null, .null, .null, .null, .null, .null, .null, .int (ii 0), .int (ii 0), .int (ii 0), .int (ii 0), .int (ii 0), .int (ii 0), .int (ii 0), .null, .null, .int (ii 0), .int (ii 0)]) := rfl
theorem law_mod {d N : Nat} {sc : Nat → Int32} {L : List (Option Value)} {bc bs : Nat} {Q : List xM → Option Value → Prop} {M : List xM} (hM : M.length = 148) (hb1 : 27 ≤ bc) (hb2 : 20667 ≤ bs) (kk : SX (LwE N sc) true m_Law (d + 93) 15 L [.ref 148] (M ++ MM0.map (r_e sgM)) (bc - 1 - 26) (bs - 53 - 20614) Q) : SX (LwE N sc) true m_Law (d + 93) 8 L [] M bc bs Q := by
  refine qw_Mod d_Law_8 cl_Law_10 (by omega) (by omega) ?_
  rw [hM]
  refine q_dup d_Law_11 rfl ?_
  refine q_callI (y2 := m_Mod_init) (i := 148) (as := []) (mc2 := 26) (ms2 := 20614) d_Law_12 c_Law_12 rfl rfl (Nat.le_of_ble_eq_true rfl) (by omega) (by omega) ?_
  rw [← mod_re]
  refine CT.appW (N := 148) (K := 148) (l := []) (cs := ([] : List xM)) (args := [.ref 0]) hM (by decide) (by decide) rfl rfl trivial rfl ?_
  refine n_Mod_init ?_
  refine ⟨_, MM0.tail, MM0_tail, rfl, ?_⟩
  rw [← sg148] at kk
  exact kk
theorem CH0_len : (CH0.map (r_e sgC)).length = 148 := by
  rw [List.length_map]
  exact CH_len
set_option maxRecDepth 20000 in
theorem law_SX {d N : Nat} {sc : Nat → Int32} {Q : List xM → Option Value → Prop} (hN : N ≤ 3072) (hQ : ∀ mem, Q mem (some (.int 1))) : SX (LwE N sc) true m_Law (d + 93) 0 [some (.retAddr 3), none, none, none] [] [] 600000 7302249 Q := by
  refine qw_Hou d_Law_0 cl_Law_7 (Nat.le_of_ble_eq_true rfl) (Nat.le_of_ble_eq_true rfl) ?_
  refine q_dup d_Law_3 rfl ?_
  refine q_callI (y2 := m_Hou_init) (i := 0) (as := []) (mc2 := 147) (ms2 := 4911) d_Law_4 c_Law_9 rfl rfl (Nat.le_of_ble_eq_true rfl) (Nat.le_of_ble_eq_true rfl) (Nat.le_of_ble_eq_true rfl) ?_
  refine n_Hou_init ?_
  refine q_astore_n d_Law_7 (by decide) ?_
  show SX _ _ _ _ _ [some (.retAddr 3), some (.ref 0), none, none] [] _ _ _ _
  refine law_mod CH0_len (Nat.le_of_ble_eq_true rfl) (Nat.le_of_ble_eq_true rfl) ?_
  refine q_mem_eq (mem := HMw CH0 MM0 []) ?_ ?_
  · show CH0.map (r_e sgC) ++ MM0.map (r_e sgM) = CH0.map (r_e sgC) ++ (MM0.map (r_e sgM) ++ [])
    rw [List.append_nil]
  refine q_astore_n d_Law_15 (by decide) ?_
  show SX _ _ _ _ _ [some (.retAddr 3), some (.ref 0), some (.ref 148), none] [] _ _ _ _
  refine q_iconst (v := ii 0) d_Law_16 rfl ?_
  refine q_istore_n d_Law_17 (by decide) ?_
  show SX _ _ _ _ _ (LL 0) [] _ _ _ _
  exact law_loop hN hQ 512 0 _ _ _ INV0 (by decide) (by decide) (by omega) (Nat.le_of_ble_eq_true rfl) (Nat.le_of_ble_eq_true rfl)
