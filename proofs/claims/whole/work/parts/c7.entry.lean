/-! AT THE LAW'S ENTRY -/
theorem tb_in {w : Cond} {i : Nat} (h : tables_1[i]? = some w) : w ∈ lw_tbl := List.mem_append_right _ (List.mem_of_getElem? h)
theorem flc_in {w : Cond} {i : Nat} (h : (flatC (Jvm.Cond.and given_1 narrow_1))[i]? = some w) : w ∈ flatC (Jvm.Cond.and given_1 narrow_1) := List.mem_of_getElem? h
theorem gw_lw {w : Cond} (h : w ∈ gw) : w ∈ lw_tbl := (List.mem_filter.mp h).1
theorem st_cls {args : Array Value} {s : State} (hts : ∀ w ∈ lw_tbl, w.before args s = true) : ∃ D : va_G, ∀ (c : Nat) (q : vw_C), xcl[c]? = some q → u_Kn s q.1 q.2.1 q.2.2 (D.1 c) (D.2 c) := by
  have hg : ∀ w ∈ gw, w.before args s = true := fun w h => hts w (gw_lw h)
  obtain ⟨c0, i0, h0⟩ := u_known (C := R0) (T := T0) (N := 3) (n := 3) hg lay0 (hg _ is_Ask)
  obtain ⟨c1, i1, h1⟩ := u_known (C := R1) (T := T1) (N := 6) (n := 6) hg lay1 (hg _ is_Dee)
  obtain ⟨c2, i2, h2⟩ := u_known (C := R2) (T := T2) (N := 8) (n := 8) hg lay2 (hg _ is_Gra)
  obtain ⟨c3, i3, h3⟩ := u_known (C := R3) (T := T3) (N := 4) (n := 4) hg lay3 (hg _ is_Num)
  obtain ⟨c4, i4, h4⟩ := u_known (C := R4) (T := T4) (N := 17) (n := 17) hg lay4 (hg _ is_Pap)
  obtain ⟨c5, i5, h5⟩ := u_known (C := R5) (T := T5) (N := 7) (n := 7) hg lay5 (hg _ is_Row)
  obtain ⟨c6, i6, h6⟩ := u_known (C := R6) (T := T6) (N := 8) (n := 8) hg lay6 (hg _ is_Run)
  obtain ⟨c7, i7, h7⟩ := u_known (C := R7) (T := T7) (N := 5) (n := 5) hg lay7 (hg _ is_Sta)
  obtain ⟨c8, i8, h8⟩ := u_known (C := R8) (T := T8) (N := 2) (n := 2) hg lay8 (hg _ is_Sum)
  obtain ⟨c9, i9, h9⟩ := u_known (C := R9) (T := T9) (N := 7) (n := 7) hg lay9 (hg _ is_Tap)
  obtain ⟨c10, i10, h10⟩ := u_known (C := R10) (T := T10) (N := 9) (n := 9) hg lay10 (hg _ is_Tex)
  obtain ⟨c11, i11, h11⟩ := u_known (C := R11) (T := T11) (N := 17) (n := 17) hg lay11 (hg _ is_Hou)
  obtain ⟨c12, i12, h12⟩ := u_known (C := R12) (T := T12) (N := 53) (n := 53) hg lay12 (hg _ is_Mod)
  refine ⟨(fun k => match k with
    | 0 => c0
    | 1 => c1
    | 2 => c2
    | 3 => c3
    | 4 => c4
    | 5 => c5
    | 6 => c6
    | 7 => c7
    | 8 => c8
    | 9 => c9
    | 10 => c10
    | 11 => c11
    | 12 => c12
    | _ => c0, fun k => match k with
    | 0 => i0
    | 1 => i1
    | 2 => i2
    | 3 => i3
    | 4 => i4
    | 5 => i5
    | 6 => i6
    | 7 => i7
    | 8 => i8
    | 9 => i9
    | 10 => i10
    | 11 => i11
    | 12 => i12
    | _ => i0), ?_⟩
  intro k q hq
  match k, hq with
  | 0, hq => cases hq; exact h0
  | 1, hq => cases hq; exact h1
  | 2, hq => cases hq; exact h2
  | 3, hq => cases hq; exact h3
  | 4, hq => cases hq; exact h4
  | 5, hq => cases hq; exact h5
  | 6, hq => cases hq; exact h6
  | 7, hq => cases hq; exact h7
  | 8, hq => cases hq; exact h8
  | 9, hq => cases hq; exact h9
  | 10, hq => cases hq; exact h10
  | 11, hq => cases hq; exact h11
  | 12, hq => cases hq; exact h12
  | k + 13, hq => exact absurd hq (by
      have : xcl.length = 13 := rfl
      rw [List.getElem?_eq_none (by omega)]
      intro h
      cases h)
theorem st_arr {args : Array Value} {s : State} (hts : ∀ w ∈ lw_tbl, w.before args s = true) : ∃ dA : Nat → ClassId, ∀ (k : Nat) (q : ClassId × FieldType), (x_ty dA)[k]? = some q → ArrOfT s q.1 q.2 ∧ va_RA s q.1 q.2 := by
  have hg : ∀ w ∈ gw, w.before args s = true := fun w h => hts w (gw_lw h)
  obtain ⟨a0, k0, m0, f0, g0, h0⟩ := Cond.arrayClass_spec (hg _ wd_a_int)
  obtain ⟨a1, k1, m1, f1, g1, h1⟩ := Cond.arrayClass_spec (hg _ wd_a_byte)
  obtain ⟨a2, k2, m2, f2, g2, h2⟩ := Cond.arrayClass_spec (hg _ wd_a_boolean)
  obtain ⟨a3, k3, m3, f3, g3, h3⟩ := Cond.arrayClass_spec (hg _ wd_a_long)
  obtain ⟨a4, k4, m4, f4, g4, h4⟩ := Cond.arrayClass_spec (hg _ wd_a_char)
  obtain ⟨m5, a5, k5, e5, -, g5, h5, f5⟩ := Cond.arrayOver_spec (n := "BracketHouse$Text") (hts _ (tb_in (i := 76) (by decide +kernel)))
  obtain ⟨m6, a6, k6, e6, -, g6, h6, f6⟩ := Cond.arrayOver_spec (n := "BracketHouse$State") (hts _ (tb_in (i := 112) (by decide +kernel)))
  obtain ⟨m7, a7, k7, e7, g7, h7, f7⟩ := Cond.arrayOver_specA (t := .int) (hts _ (tb_in (i := 388) (by decide +kernel)))
  obtain ⟨m8, a8, k8, e8, g8, h8, f8⟩ := Cond.arrayOver_specA (t := .long) (hts _ (tb_in (i := 459) (by decide +kernel)))
  refine ⟨fun k => match k with
    | 0 => a0
    | 1 => a1
    | 2 => a2
    | 3 => a3
    | 4 => a4
    | 5 => a5
    | 6 => a6
    | 7 => a7
    | 8 => a8
    | _ => a0, ?_⟩
  intro k q hq
  match k, hq with
  | 0, hq => cases hq; exact ⟨fun n z => ⟨(fun _ h => by cases h), k0, g0, m0, h0⟩, f0⟩
  | 1, hq => cases hq; exact ⟨fun n z => ⟨(fun _ h => by cases h), k1, g1, m1, h1⟩, f1⟩
  | 2, hq => cases hq; exact ⟨fun n z => ⟨(fun _ h => by cases h), k2, g2, m2, h2⟩, f2⟩
  | 3, hq => cases hq; exact ⟨fun n z => ⟨(fun _ h => by cases h), k3, g3, m3, h3⟩, f3⟩
  | 4, hq => cases hq; exact ⟨fun n z => ⟨(fun _ h => by cases h), k4, g4, m4, h4⟩, f4⟩
  | 5, hq => cases hq; exact ⟨fun n z => ⟨(fun _ h => by cases h), k5, g5, m5, h5⟩, ⟨k5, m5, g5, h5, e5, f5⟩⟩
  | 6, hq => cases hq; exact ⟨fun n z => ⟨(fun _ h => by cases h), k6, g6, m6, h6⟩, ⟨k6, m6, g6, h6, e6, f6⟩⟩
  | 7, hq => cases hq; exact ⟨fun n z => ⟨(fun _ h => by cases h), k7, g7, m7, h7⟩, f7⟩
  | 8, hq => cases hq; exact ⟨fun n z => ⟨(fun _ h => by cases h), k8, g8, m8, h8⟩, f8⟩
  | k + 9, hq => exact absurd hq (by
      rw [List.getElem?_eq_none (by show 9 ≤ k + 9; omega)]
      intro h
      cases h)
theorem st_t0 {args : Array Value} {s : State} {A : Nat → Prop} (hts : ∀ w ∈ lw_tbl, w.before args s = true) (hs : ∀ w ∈ flatC (Jvm.Cond.and given_1 narrow_1), w.before args s = true) (hA : ∀ a : Nat, a < s.heap.size → ¬ A a) : ∃ t : Nat, va_Z "BracketHouse" (x_sn 0) "[I" (.ref t) A s s.heap ∧ va_T .int t 3 (fun k => .int (x_st 0 k)) A s s.heap := by
  obtain ⟨t, e, h⟩ := va_Tof (tm := .static "BracketHouse" "LEAST_TERM" "[I") (ty := .int) (N := 3) (f := fun k => .int (x_st 0 k)) (A := A) (by decide) (hs _ (flc_in (i := 16) (by decide +kernel))) (va_eqt (hs _ (flc_in (i := 17) (by decide +kernel)))) (fun j hj => match j, hj with
    | 0, _ => va_eqt (hs _ (flc_in (i := 18) (by decide +kernel)))
    | 1, _ => va_eqt (hs _ (flc_in (i := 19) (by decide +kernel)))
    | 2, _ => va_eqt (hs _ (flc_in (i := 20) (by decide +kernel)))) hA
  exact ⟨t, va_Zref (hts _ (tb_in (i := 531) (by decide +kernel))) (hts _ (tb_in (i := 1) (by decide +kernel))) e hA, h⟩
theorem st_t1 {args : Array Value} {s : State} {A : Nat → Prop} (hts : ∀ w ∈ lw_tbl, w.before args s = true) (hs : ∀ w ∈ flatC (Jvm.Cond.and given_1 narrow_1), w.before args s = true) (hA : ∀ a : Nat, a < s.heap.size → ¬ A a) : ∃ t : Nat, va_Z "BracketHouse" (x_sn 1) "[I" (.ref t) A s s.heap ∧ va_T .int t 3 (fun k => .int (x_st 1 k)) A s s.heap := by
  obtain ⟨t, e, h⟩ := va_Tof (tm := .static "BracketHouse" "GREATEST_TERM" "[I") (ty := .int) (N := 3) (f := fun k => .int (x_st 1 k)) (A := A) (by decide) (hs _ (flc_in (i := 22) (by decide +kernel))) (va_eqt (hs _ (flc_in (i := 23) (by decide +kernel)))) (fun j hj => match j, hj with
    | 0, _ => va_eqt (hs _ (flc_in (i := 24) (by decide +kernel)))
    | 1, _ => va_eqt (hs _ (flc_in (i := 25) (by decide +kernel)))
    | 2, _ => va_eqt (hs _ (flc_in (i := 26) (by decide +kernel)))) hA
  exact ⟨t, va_Zref (hts _ (tb_in (i := 533) (by decide +kernel))) (hts _ (tb_in (i := 1) (by decide +kernel))) e hA, h⟩
theorem st_t2 {args : Array Value} {s : State} {A : Nat → Prop} (hts : ∀ w ∈ lw_tbl, w.before args s = true) (hs : ∀ w ∈ flatC (Jvm.Cond.and given_1 narrow_1), w.before args s = true) (hA : ∀ a : Nat, a < s.heap.size → ¬ A a) : ∃ t : Nat, va_Z "BracketHouse" (x_sn 2) "[I" (.ref t) A s s.heap ∧ va_T .int t 3 (fun k => .int (x_st 2 k)) A s s.heap := by
  obtain ⟨t, e, h⟩ := va_Tof (tm := .static "BracketHouse" "FIRST_TERM" "[I") (ty := .int) (N := 3) (f := fun k => .int (x_st 2 k)) (A := A) (by decide) (hs _ (flc_in (i := 5) (by decide +kernel))) (va_eqt (hs _ (flc_in (i := 6) (by decide +kernel)))) (fun j hj => match j, hj with
    | 0, _ => va_eqt (hs _ (flc_in (i := 7) (by decide +kernel)))
    | 1, _ => va_eqt (hs _ (flc_in (i := 8) (by decide +kernel)))
    | 2, _ => va_eqt (hs _ (flc_in (i := 9) (by decide +kernel)))) hA
  exact ⟨t, va_Zref (hts _ (tb_in (i := 78) (by decide +kernel))) (hts _ (tb_in (i := 1) (by decide +kernel))) e hA, h⟩
theorem st_bytes : ∀ j, j < 137 → (flatC (Jvm.Cond.and given_1 narrow_1))[57 + j]? = some (.eq (.elem (.field (.string "BracketHouse$Tape" 31) "java/lang/String" "value" "[B") (.int (Int32.ofNat j))) (.int (x_tb.getD j 0))) := by decide +kernel
theorem st_str {args : Array Value} {s : State} {A : Nat → Prop} (hts : ∀ w ∈ lw_tbl, w.before args s = true) (hs : ∀ w ∈ flatC (Jvm.Cond.and given_1 narrow_1), w.before args s = true) (hA : ∀ a : Nat, a < s.heap.size → ¬ A a) : ∃ t u : Nat, vk_R "BracketHouse$Tape" 31 x_wt t s ∧ va_O "java/lang/String" t A s s.heap ∧ va_OF "java/lang/String" "coder" "B" (.int 0) t A s s.heap ∧ va_OF "java/lang/String" "value" "[B" (.ref u) t A s s.heap ∧ va_T .byte u 137 (fun j => .int (x_tb.getD j 0)) A s s.heap := by
  obtain ⟨adK, adV, hS, hev⟩ := vk_Sof (args := args) (s := s) (N := 1) (tm := fun _ => .string "BracketHouse$Tape" 31) (len := [137]) (byt := [x_tb]) (A := A)
    (fun i hi => match i, hi with | 0, _ => by decide)
    (fun _ _ => (hs _ (flc_in (i := 53) (by decide +kernel))))
    (fun _ _ => (hs _ (flc_in (i := 54) (by decide +kernel))))
    (fun _ _ => (hs _ (flc_in (i := 55) (by decide +kernel))))
    (fun i hi => match i, hi with | 0, _ => (hs _ (flc_in (i := 56) (by decide +kernel))))
    (fun i hi j hj => match i, hi with | 0, _ => hs _ (flc_in (st_bytes j hj)))
    (fun i j hi hj h => absurd (by omega) h) hA
  obtain ⟨h1, h2, h3, h4⟩ := hS.1 0 (by decide)
  exact ⟨adK 0, adV 0, vk_R.of (hts _ (tb_in (i := 119) (by decide +kernel))) (hev 0 (by decide)), h1, h2, h3, h4⟩
theorem st_nest {args : Array Value} {s : State} (hts : ∀ w ∈ lw_tbl, w.before args s = true) : x_N s := by
  refine ⟨?_, va_Nw.of rfl (hts _ (tb_in (i := 77) (by decide +kernel)))⟩
  show ∀ q ∈ x_nM, _
  unfold x_nM
  refine List.forall_mem_cons.mpr ⟨va_Nw.of rfl (hts _ (tb_in (i := 37) (by decide +kernel))), ?_⟩
  refine List.forall_mem_cons.mpr ⟨va_Nw.of rfl (hts _ (tb_in (i := 115) (by decide +kernel))), ?_⟩
  refine List.forall_mem_cons.mpr ⟨va_Nw.of rfl (hts _ (tb_in (i := 285) (by decide +kernel))), ?_⟩
  refine List.forall_mem_cons.mpr ⟨va_Nw.of rfl (hts _ (tb_in (i := 291) (by decide +kernel))), ?_⟩
  refine List.forall_mem_cons.mpr ⟨va_Nw.of rfl (hts _ (tb_in (i := 350) (by decide +kernel))), ?_⟩
  refine List.forall_mem_cons.mpr ⟨va_Nw.of rfl (hts _ (tb_in (i := 386) (by decide +kernel))), ?_⟩
  refine List.forall_mem_cons.mpr ⟨va_Nw.of rfl (hts _ (tb_in (i := 454) (by decide +kernel))), ?_⟩
  exact fun _ h => absurd h List.not_mem_nil
theorem nw_ao {ty : FieldType} {args : Array Value} {s : State} (h : (Cond.arrayOver ty).before args s = true) : va_Nw (.arrayOver ty) s := h
theorem st_nw {args : Array Value} {s : State} {A : Nat → Prop} (hts : ∀ w ∈ lw_tbl, w.before args s = true) (hs : ∀ w ∈ flatC (Jvm.Cond.and given_1 narrow_1), w.before args s = true) (hA : ∀ a : Nat, a < s.heap.size → ¬ A a) : (va_Z "java/lang/String" "COMPACT_STRINGS" "Z" (.int 1) A s s.heap ∧ va_Nw (.arrayOver (.array .int)) s ∧ va_Nw (.arrayOver (.array .long)) s ∧ va_Nw (.castable "[I" "java/lang/Cloneable") s) ∧ va_AO "BracketHouse$Text" s ∧ va_AO "BracketHouse$State" s :=
  ⟨⟨va_Zof (hts _ (tb_in (i := 129) (by decide +kernel))) (hts _ (tb_in (i := 6) (by decide +kernel))) (va_eqt (hs _ (flc_in (i := 10) (by decide +kernel)))) hA, nw_ao (hts _ (tb_in (i := 388) (by decide +kernel))), nw_ao (hts _ (tb_in (i := 459) (by decide +kernel))), va_Nw.of rfl (hts _ (tb_in (i := 711) (by decide +kernel)))⟩, va_AO.of (hts _ (tb_in (i := 76) (by decide +kernel))), va_AO.of (hts _ (tb_in (i := 112) (by decide +kernel)))⟩
theorem bits_of (x : Int32) : ∃ n : Nat, Int32.ofNat n = x := by
  refine ⟨x.toBitVec.toNat, ?_⟩
  apply Int32.toBitVec.inj
  simp
