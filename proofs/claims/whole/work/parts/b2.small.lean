/-! CONSTRUCTORS, each in the smallest memory that it needs -/
theorem arrV_eq {c : ClassId} {n : Nat} {f f' : Nat → Value} (h : ∀ j, j < n → f j = f' j) : arrV c n f = arrV c n f' := by
  have : (arrV c n f).slots = (arrV c n f').slots := by
    apply Array.ext_getElem?
    intro j
    by_cases hj : j < n
    · rw [arrV_read _ _ hj, arrV_read _ _ hj, h j hj]
    · rw [Array.getElem?_eq_none (by rw [arrV_size]; omega), Array.getElem?_eq_none (by rw [arrV_size]; omega)]
  show ({ cls := c, slots := (arrV c n f).slots } : Cell) = { cls := c, slots := (arrV c n f').slots }
  rw [this]
theorem sgl_inj2 {l : List Nat} {N : Nat} (h1 : l.Nodup) (h2 : ∀ k ∈ l, k < N + l.length) (i j : Nat) (e : sgl l N i = sgl l N j) : i = j := by
  unfold sgl at e
  split at e
  · next k hk =>
    split at e
    · next k2 hk2 =>
      subst e
      obtain ⟨a1, a2⟩ := List.getElem?_eq_some_iff.mp hk
      obtain ⟨b1, b2⟩ := List.getElem?_eq_some_iff.mp hk2
      rcases Nat.lt_trichotomy i j with h | h | h
      · exact absurd (a2.trans b2.symm) (List.pairwise_iff_getElem.mp h1 i j a1 b1 h)
      · exact h
      · exact absurd (b2.trans a2.symm) (List.pairwise_iff_getElem.mp h1 j i b1 a1 h)
    · next hk2 =>
      have := h2 k (List.mem_of_getElem? hk)
      have := List.getElem?_eq_none_iff.mp hk2
      omega
  · next hk =>
    have := List.getElem?_eq_none_iff.mp hk
    split at e
    · next k2 hk2 =>
      have := h2 k2 (List.mem_of_getElem? hk2)
      omega
    · omega
theorem sgl_up {l : List Nat} {N n b : Nat} (h : n = l.length) (hb : b = N + n) (k : Nat) : sgl l N (n + k) = b + k := by
  subst h; subst hb
  unfold sgl
  rw [List.getElem?_eq_none (by omega)]
  show N + (l.length + k) = _
  omega
theorem cl_Hou_9 : Cond.classLink "BracketHouse" 9 "BracketHouse$State" ∈ gw := gi1 (i := 29) (by decide +kernel) (by decide +kernel)
theorem cl_Hou_27 : Cond.classLink "BracketHouse" 27 "BracketHouse$Tape" ∈ gw := gi1 (i := 113) (by decide +kernel) (by decide +kernel)
theorem cl_Hou_34 : Cond.classLink "BracketHouse" 34 "BracketHouse$Grammar" ∈ gw := gi1 (i := 197) (by decide +kernel) (by decide +kernel)
theorem cl_Hou_43 : Cond.classLink "BracketHouse" 43 "BracketHouse$Asker" ∈ gw := gi2 (i := 43) (by decide +kernel) (by decide +kernel)
theorem cl_Hou_50 : Cond.classLink "BracketHouse" 50 "BracketHouse$Deeds" ∈ gw := gi2 (i := 74) (by decide +kernel) (by decide +kernel)
theorem cl_Hou_62 : Cond.classLink "BracketHouse" 62 "BracketHouse$Runner" ∈ gw := gi2 (i := 101) (by decide +kernel) (by decide +kernel)
theorem cl_Hou_71 : Cond.classLink "BracketHouse" 71 "BracketHouse$Paper" ∈ gw := gi2 (i := 139) (by decide +kernel) (by decide +kernel)
theorem cl_Hou_80 : Cond.classLink "BracketHouse" 80 "BracketHouse$Numbering" ∈ gw := gi2 (i := 212) (by decide +kernel) (by decide +kernel)
theorem cl_Hou_158 : Cond.classLink "BracketHouse" 158 "BracketHouse$Text" ∈ gw := gi3 (i := 219) (by decide +kernel) (by decide +kernel)
theorem cl_Ask_9 : Cond.classLink "BracketHouse$Asker" 9 "BracketHouse$Sums" ∈ gw := gi2 (i := 49) (by decide +kernel) (by decide +kernel)
theorem cl_Gra_9 : Cond.classLink "BracketHouse$Grammar" 9 "BracketHouse$Text" ∈ gw := gi1 (i := 203) (by decide +kernel) (by decide +kernel)
theorem cl_Num_9 : Cond.classLink "BracketHouse$Numbering" 9 "[[J" ∈ gw := gi2 (i := 218) (by decide +kernel) (by decide +kernel)
theorem cl_Pap_46 : Cond.classLink "BracketHouse$Paper" 46 "BracketHouse$Row" ∈ gw := gi2 (i := 145) (by decide +kernel) (by decide +kernel)
theorem cl_Pap_53 : Cond.classLink "BracketHouse$Paper" 53 "[[I" ∈ gw := gi2 (i := 147) (by decide +kernel) (by decide +kernel)
theorem cl_Run_15 : Cond.classLink "BracketHouse$Runner" 15 "BracketHouse$State" ∈ gw := gi2 (i := 107) (by decide +kernel) (by decide +kernel)
theorem cl_Run_22 : Cond.classLink "BracketHouse$Runner" 22 "BracketHouse$Sums" ∈ gw := gi2 (i := 109) (by decide +kernel) (by decide +kernel)
theorem cl_Run_43 : Cond.classLink "BracketHouse$Runner" 43 "BracketHouse$Deeds" ∈ gw := gi2 (i := 111) (by decide +kernel) (by decide +kernel)
theorem cl_Sta_9 : Cond.classLink "BracketHouse$State" 9 "BracketHouse$Row" ∈ gw := gi1 (i := 35) (by decide +kernel) (by decide +kernel)
theorem cl_Sta_22 : Cond.classLink "BracketHouse$State" 22 "BracketHouse$Text" ∈ gw := gi1 (i := 75) (by decide +kernel) (by decide +kernel)
theorem cl_Law_7 : Cond.classLink "BracketHouseLaw" 7 "BracketHouse" ∈ gw := gi1 (i := 21) (by decide +kernel) (by decide +kernel)
theorem cl_Law_10 : Cond.classLink "BracketHouseLaw" 10 "BracketHouseModel" ∈ gw := gi5 (i := 174) (by decide +kernel) (by decide +kernel)
theorem cl_Arr_317 : Cond.classLink "java/util/Arrays" 317 "[I" ∈ gw := gi3 (i := 232) (by decide +kernel) (by decide +kernel)
section NW
variable {y : xY} {d pc : Nat} {L : List (Option Value)} {st : List Value} {mem : List xM} {bc bs : Nat} {Q : List xM → Option Value → Prop}
theorem is_Ask : Cond.instantiable "BracketHouse$Asker" 3 ∈ gw := gi2 (i := 44) (by decide +kernel) (by decide +kernel)
theorem nw_Ask {idx : Nat} (hd : decode y.2.1 pc = .ok (.new idx, 3)) (w1 : Cond.classLink y.1.cls idx "BracketHouse$Asker" ∈ gw) (hb1 : 1 ≤ bc) (hb2 : 3 ≤ bs) (kk : SJ true y d (pc + 3) L (.ref mem.length :: st) (mem ++ [.inr (0, [.null, .null, .int (ii 0)])]) (bc - 1) (bs - 3) Q) : SJ true y d pc L st mem bc bs Q :=
  j_new (ci := 0) (N := 3) (C := "BracketHouse$Asker") (T := T0) hd rfl (fun k => ([.object "BracketHouse$Sums", .array .int, .int] : List FieldType).getD k .int) (by decide +kernel) (fun ad ex j hj => by
    match j, hj with
    | 0, _ => rfl
    | 1, _ => rfl
    | 2, _ => rfl) w1 is_Ask in_Ask hb1 hb2 kk
theorem is_Dee : Cond.instantiable "BracketHouse$Deeds" 6 ∈ gw := gi2 (i := 75) (by decide +kernel) (by decide +kernel)
theorem nw_Dee {idx : Nat} (hd : decode y.2.1 pc = .ok (.new idx, 3)) (w1 : Cond.classLink y.1.cls idx "BracketHouse$Deeds" ∈ gw) (hb1 : 1 ≤ bc) (hb2 : 6 ≤ bs) (kk : SJ true y d (pc + 3) L (.ref mem.length :: st) (mem ++ [.inr (1, [.int (ii 0), .null, .null, .null, .null, .null])]) (bc - 1) (bs - 6) Q) : SJ true y d pc L st mem bc bs Q :=
  j_new (ci := 1) (N := 6) (C := "BracketHouse$Deeds") (T := T1) hd rfl (fun k => ([.int, .object "BracketHouse$Asker", .object "BracketHouse$State", .array .int, .array .int, .array .int] : List FieldType).getD k .int) (by decide +kernel) (fun ad ex j hj => by
    match j, hj with
    | 0, _ => rfl
    | 1, _ => rfl
    | 2, _ => rfl
    | 3, _ => rfl
    | 4, _ => rfl
    | 5, _ => rfl) w1 is_Dee in_Dee hb1 hb2 kk
theorem is_Gra : Cond.instantiable "BracketHouse$Grammar" 8 ∈ gw := gi1 (i := 198) (by decide +kernel) (by decide +kernel)
theorem nw_Gra {idx : Nat} (hd : decode y.2.1 pc = .ok (.new idx, 3)) (w1 : Cond.classLink y.1.cls idx "BracketHouse$Grammar" ∈ gw) (hb1 : 1 ≤ bc) (hb2 : 8 ≤ bs) (kk : SJ true y d (pc + 3) L (.ref mem.length :: st) (mem ++ [.inr (2, [.null, .int (ii 0), .null, .int (ii 0), .int (ii 0), .int (ii 0), .int (ii 0), .int (ii 0)])]) (bc - 1) (bs - 8) Q) : SJ true y d pc L st mem bc bs Q :=
  j_new (ci := 2) (N := 8) (C := "BracketHouse$Grammar") (T := T2) hd rfl (fun k => ([.object "BracketHouse$Text", .int, .object "BracketHouse$Tape", .boolean, .int, .int, .int, .int] : List FieldType).getD k .int) (by decide +kernel) (fun ad ex j hj => by
    match j, hj with
    | 0, _ => rfl
    | 1, _ => rfl
    | 2, _ => rfl
    | 3, _ => rfl
    | 4, _ => rfl
    | 5, _ => rfl
    | 6, _ => rfl
    | 7, _ => rfl) w1 is_Gra in_Gra hb1 hb2 kk
theorem is_Num : Cond.instantiable "BracketHouse$Numbering" 4 ∈ gw := gi2 (i := 213) (by decide +kernel) (by decide +kernel)
theorem nw_Num {idx : Nat} (hd : decode y.2.1 pc = .ok (.new idx, 3)) (w1 : Cond.classLink y.1.cls idx "BracketHouse$Numbering" ∈ gw) (hb1 : 1 ≤ bc) (hb2 : 4 ≤ bs) (kk : SJ true y d (pc + 3) L (.ref mem.length :: st) (mem ++ [.inr (3, [.null, .null, .null, .null])]) (bc - 1) (bs - 4) Q) : SJ true y d pc L st mem bc bs Q :=
  j_new (ci := 3) (N := 4) (C := "BracketHouse$Numbering") (T := T3) hd rfl (fun k => ([.array (.array .long), .array .int, .array .long, .array .long] : List FieldType).getD k .int) (by decide +kernel) (fun ad ex j hj => by
    match j, hj with
    | 0, _ => rfl
    | 1, _ => rfl
    | 2, _ => rfl
    | 3, _ => rfl) w1 is_Num in_Num hb1 hb2 kk
theorem is_Pap : Cond.instantiable "BracketHouse$Paper" 17 ∈ gw := gi2 (i := 140) (by decide +kernel) (by decide +kernel)
theorem nw_Pap {idx : Nat} (hd : decode y.2.1 pc = .ok (.new idx, 3)) (w1 : Cond.classLink y.1.cls idx "BracketHouse$Paper" ∈ gw) (hb1 : 1 ≤ bc) (hb2 : 17 ≤ bs) (kk : SJ true y d (pc + 3) L (.ref mem.length :: st) (mem ++ [.inr (4, [.int (ii 0), .int (ii 0), .int (ii 0), .int (ii 0), .int (ii 0), .int (ii 0), .int (ii 0), .int (ii 0), .int (ii 0), .int (ii 0), .null, .null, .null, .null, .null, .null, .null])]) (bc - 1) (bs - 17) Q) : SJ true y d pc L st mem bc bs Q :=
  j_new (ci := 4) (N := 17) (C := "BracketHouse$Paper") (T := T4) hd rfl (fun k => ([.int, .int, .int, .int, .int, .int, .int, .int, .int, .int, .array .boolean, .object "BracketHouse$Asker", .object "BracketHouse$Row", .array (.array .int), .array (.array .int), .array .int, .array .int] : List FieldType).getD k .int) (by decide +kernel) (fun ad ex j hj => by
    match j, hj with
    | 0, _ => rfl
    | 1, _ => rfl
    | 2, _ => rfl
    | 3, _ => rfl
    | 4, _ => rfl
    | 5, _ => rfl
    | 6, _ => rfl
    | 7, _ => rfl
    | 8, _ => rfl
    | 9, _ => rfl
    | 10, _ => rfl
    | 11, _ => rfl
    | 12, _ => rfl
    | 13, _ => rfl
    | 14, _ => rfl
    | 15, _ => rfl
    | 16, _ => rfl
    | n + 17, h => exact absurd h (by omega)) w1 is_Pap in_Pap hb1 hb2 kk
theorem is_Row : Cond.instantiable "BracketHouse$Row" 7 ∈ gw := gi1 (i := 36) (by decide +kernel) (by decide +kernel)
theorem nw_Row {idx : Nat} (hd : decode y.2.1 pc = .ok (.new idx, 3)) (w1 : Cond.classLink y.1.cls idx "BracketHouse$Row" ∈ gw) (hb1 : 1 ≤ bc) (hb2 : 7 ≤ bs) (kk : SJ true y d (pc + 3) L (.ref mem.length :: st) (mem ++ [.inr (5, [.null, .int (ii 0), .null, .null, .null, .int (ii 0), .int (ii 0)])]) (bc - 1) (bs - 7) Q) : SJ true y d pc L st mem bc bs Q :=
  j_new (ci := 5) (N := 7) (C := "BracketHouse$Row") (T := T5) hd rfl (fun k => ([.array .int, .int, .array .int, .array .int, .array .int, .int, .boolean] : List FieldType).getD k .int) (by decide +kernel) (fun ad ex j hj => by
    match j, hj with
    | 0, _ => rfl
    | 1, _ => rfl
    | 2, _ => rfl
    | 3, _ => rfl
    | 4, _ => rfl
    | 5, _ => rfl
    | 6, _ => rfl) w1 is_Row in_Row hb1 hb2 kk
theorem is_Run : Cond.instantiable "BracketHouse$Runner" 8 ∈ gw := gi2 (i := 102) (by decide +kernel) (by decide +kernel)
theorem nw_Run {idx : Nat} (hd : decode y.2.1 pc = .ok (.new idx, 3)) (w1 : Cond.classLink y.1.cls idx "BracketHouse$Runner" ∈ gw) (hb1 : 1 ≤ bc) (hb2 : 8 ≤ bs) (kk : SJ true y d (pc + 3) L (.ref mem.length :: st) (mem ++ [.inr (6, [.int (ii 0), .null, .null, .null, .null, .null, .null, .int (ii 0)])]) (bc - 1) (bs - 8) Q) : SJ true y d pc L st mem bc bs Q :=
  j_new (ci := 6) (N := 8) (C := "BracketHouse$Runner") (T := T6) hd rfl (fun k => ([.int, .object "BracketHouse$State", .object "BracketHouse$Deeds", .object "BracketHouse$State", .object "BracketHouse$Deeds", .object "BracketHouse$Sums", .array .int, .int] : List FieldType).getD k .int) (by decide +kernel) (fun ad ex j hj => by
    match j, hj with
    | 0, _ => rfl
    | 1, _ => rfl
    | 2, _ => rfl
    | 3, _ => rfl
    | 4, _ => rfl
    | 5, _ => rfl
    | 6, _ => rfl
    | 7, _ => rfl) w1 is_Run in_Run hb1 hb2 kk
theorem is_Sta : Cond.instantiable "BracketHouse$State" 5 ∈ gw := gi1 (i := 30) (by decide +kernel) (by decide +kernel)
theorem nw_Sta {idx : Nat} (hd : decode y.2.1 pc = .ok (.new idx, 3)) (w1 : Cond.classLink y.1.cls idx "BracketHouse$State" ∈ gw) (hb1 : 1 ≤ bc) (hb2 : 5 ≤ bs) (kk : SJ true y d (pc + 3) L (.ref mem.length :: st) (mem ++ [.inr (7, [.null, .null, .null, .int (ii 0), .int (ii 0)])]) (bc - 1) (bs - 5) Q) : SJ true y d pc L st mem bc bs Q :=
  j_new (ci := 7) (N := 5) (C := "BracketHouse$State") (T := T7) hd rfl (fun k => ([.object "BracketHouse$Row", .array .int, .array (.object "BracketHouse$Text"), .int, .int] : List FieldType).getD k .int) (by decide +kernel) (fun ad ex j hj => by
    match j, hj with
    | 0, _ => rfl
    | 1, _ => rfl
    | 2, _ => rfl
    | 3, _ => rfl
    | 4, _ => rfl) w1 is_Sta in_Sta hb1 hb2 kk
theorem is_Sum : Cond.instantiable "BracketHouse$Sums" 2 ∈ gw := gi2 (i := 50) (by decide +kernel) (by decide +kernel)
theorem nw_Sum {idx : Nat} (hd : decode y.2.1 pc = .ok (.new idx, 3)) (w1 : Cond.classLink y.1.cls idx "BracketHouse$Sums" ∈ gw) (hb1 : 1 ≤ bc) (hb2 : 2 ≤ bs) (kk : SJ true y d (pc + 3) L (.ref mem.length :: st) (mem ++ [.inr (8, [.int (ii 0), .null])]) (bc - 1) (bs - 2) Q) : SJ true y d pc L st mem bc bs Q :=
  j_new (ci := 8) (N := 2) (C := "BracketHouse$Sums") (T := T8) hd rfl (fun k => ([.boolean, .array .int] : List FieldType).getD k .int) (by decide +kernel) (fun ad ex j hj => by
    match j, hj with
    | 0, _ => rfl
    | 1, _ => rfl) w1 is_Sum in_Sum hb1 hb2 kk
theorem is_Tap : Cond.instantiable "BracketHouse$Tape" 7 ∈ gw := gi1 (i := 114) (by decide +kernel) (by decide +kernel)
theorem nw_Tap {idx : Nat} (hd : decode y.2.1 pc = .ok (.new idx, 3)) (w1 : Cond.classLink y.1.cls idx "BracketHouse$Tape" ∈ gw) (hb1 : 1 ≤ bc) (hb2 : 7 ≤ bs) (kk : SJ true y d (pc + 3) L (.ref mem.length :: st) (mem ++ [.inr (9, [.null, .int (ii 0), .null, .null, .null, .int (ii 0), .null])]) (bc - 1) (bs - 7) Q) : SJ true y d pc L st mem bc bs Q :=
  j_new (ci := 9) (N := 7) (C := "BracketHouse$Tape") (T := T9) hd rfl (fun k => ([.array .int, .int, .array .int, .array .int, .array .int, .int, .array .char] : List FieldType).getD k .int) (by decide +kernel) (fun ad ex j hj => by
    match j, hj with
    | 0, _ => rfl
    | 1, _ => rfl
    | 2, _ => rfl
    | 3, _ => rfl
    | 4, _ => rfl
    | 5, _ => rfl
    | 6, _ => rfl) w1 is_Tap in_Tap hb1 hb2 kk
theorem is_Tex : Cond.instantiable "BracketHouse$Text" 9 ∈ gw := gi1 (i := 204) (by decide +kernel) (by decide +kernel)
theorem nw_Tex {idx : Nat} (hd : decode y.2.1 pc = .ok (.new idx, 3)) (w1 : Cond.classLink y.1.cls idx "BracketHouse$Text" ∈ gw) (hb1 : 1 ≤ bc) (hb2 : 9 ≤ bs) (kk : SJ true y d (pc + 3) L (.ref mem.length :: st) (mem ++ [.inr (10, [.null, .null, .null, .null, .null, .null, .null, .int (ii 0), .int (ii 0)])]) (bc - 1) (bs - 9) Q) : SJ true y d pc L st mem bc bs Q :=
  j_new (ci := 10) (N := 9) (C := "BracketHouse$Text") (T := T10) hd rfl (fun k => ([.array .int, .array .int, .array .int, .array .int, .array .int, .array .int, .array .int, .int, .int] : List FieldType).getD k .int) (by decide +kernel) (fun ad ex j hj => by
    match j, hj with
    | 0, _ => rfl
    | 1, _ => rfl
    | 2, _ => rfl
    | 3, _ => rfl
    | 4, _ => rfl
    | 5, _ => rfl
    | 6, _ => rfl
    | 7, _ => rfl
    | 8, _ => rfl) w1 is_Tex in_Tex hb1 hb2 kk
theorem is_Hou : Cond.instantiable "BracketHouse" 17 ∈ gw := gi1 (i := 22) (by decide +kernel) (by decide +kernel)
theorem nw_Hou {idx : Nat} (hd : decode y.2.1 pc = .ok (.new idx, 3)) (w1 : Cond.classLink y.1.cls idx "BracketHouse" ∈ gw) (hb1 : 1 ≤ bc) (hb2 : 17 ≤ bs) (kk : SJ true y d (pc + 3) L (.ref mem.length :: st) (mem ++ [.inr (11, [.null, .null, .null, .null, .null, .null, .null, .null, .null, .null, .null, .null, .null, .int (ii 0), .int (ii 0), .int (ii 0), .int (ii 0)])]) (bc - 1) (bs - 17) Q) : SJ true y d pc L st mem bc bs Q :=
  j_new (ci := 11) (N := 17) (C := "BracketHouse") (T := T11) hd rfl (fun k => ([.object "BracketHouse$State", .object "BracketHouse$State", .array (.object "BracketHouse$State"), .array .boolean, .object "BracketHouse$Tape", .object "BracketHouse$Grammar", .object "BracketHouse$Asker", .object "BracketHouse$Deeds", .object "BracketHouse$Deeds", .object "BracketHouse$Runner", .object "BracketHouse$Paper", .object "BracketHouse$Numbering", .array .int, .boolean, .int, .int, .int] : List FieldType).getD k .int) (by decide +kernel) (fun ad ex j hj => by
    match j, hj with
    | 0, _ => rfl
    | 1, _ => rfl
    | 2, _ => rfl
    | 3, _ => rfl
    | 4, _ => rfl
    | 5, _ => rfl
    | 6, _ => rfl
    | 7, _ => rfl
    | 8, _ => rfl
    | 9, _ => rfl
    | 10, _ => rfl
    | 11, _ => rfl
    | 12, _ => rfl
    | 13, _ => rfl
    | 14, _ => rfl
    | 15, _ => rfl
    | 16, _ => rfl
    | n + 17, h => exact absurd h (by omega)) w1 is_Hou in_Hou hb1 hb2 kk
theorem is_Mod : Cond.instantiable "BracketHouseModel" 53 ∈ gw := gi5 (i := 175) (by decide +kernel) (by decide +kernel)
theorem nw_Mod {idx : Nat} (hd : decode y.2.1 pc = .ok (.new idx, 3)) (w1 : Cond.classLink y.1.cls idx "BracketHouseModel" ∈ gw) (hb1 : 1 ≤ bc) (hb2 : 53 ≤ bs) (kk : SJ true y d (pc + 3) L (.ref mem.length :: st) (mem ++ [.inr (12, [.int (ii 0), .null, .null, .null, .null, .null, .int (ii 0), .null, .int (ii 0), .int (ii 0), .int (ii 0), .null, .null, .int (ii 0), .int (ii 0), .null, .null, .null, .int (ii 0), .int (ii 0), .int (ii 0), .int (ii 0), .int (ii 0), .int (ii 0), .int (ii 0), .int (ii 0), .null, .int (ii 0), .int (ii 0), .null, .null, .null, .null, .int (ii 0), .null, .null, .null, .null, .null, .null, .null, .null, .int (ii 0), .int (ii 0), .int (ii 0), .int (ii 0), .int (ii 0), .int (ii 0), .int (ii 0), .null, .null, .int (ii 0), .int (ii 0)])]) (bc - 1) (bs - 53) Q) : SJ true y d pc L st mem bc bs Q :=
  j_new (ci := 12) (N := 53) (C := "BracketHouseModel") (T := T12) hd rfl (fun k => ([.int, .array .int, .array .int, .array .int, .array .boolean, .array .int, .int, .array .byte, .int, .int, .boolean, .array .byte, .array .int, .int, .int, .array .int, .array .int, .array .int, .int, .int, .int, .int, .int, .int, .boolean, .boolean, .array .int, .int, .int, .array .int, .array .int, .array .int, .array .int, .int, .array .int, .array .int, .array .int, .array .boolean, .array .long, .array .int, .array .int, .array .long, .int, .int, .int, .int, .int, .boolean, .boolean, .array .long, .array .int, .int, .int] : List FieldType).getD k .int) (by decide +kernel) (fun ad ex j hj => by
    match j, hj with
    | 0, _ => rfl
    | 1, _ => rfl
    | 2, _ => rfl
    | 3, _ => rfl
    | 4, _ => rfl
    | 5, _ => rfl
    | 6, _ => rfl
    | 7, _ => rfl
    | 8, _ => rfl
    | 9, _ => rfl
    | 10, _ => rfl
    | 11, _ => rfl
    | 12, _ => rfl
    | 13, _ => rfl
    | 14, _ => rfl
    | 15, _ => rfl
    | 16, _ => rfl
    | 17, _ => rfl
    | 18, _ => rfl
    | 19, _ => rfl
    | 20, _ => rfl
    | 21, _ => rfl
    | 22, _ => rfl
    | 23, _ => rfl
    | 24, _ => rfl
    | 25, _ => rfl
    | 26, _ => rfl
    | 27, _ => rfl
    | 28, _ => rfl
    | 29, _ => rfl
    | 30, _ => rfl
    | 31, _ => rfl
    | 32, _ => rfl
    | 33, _ => rfl
    | 34, _ => rfl
    | 35, _ => rfl
    | 36, _ => rfl
    | 37, _ => rfl
    | 38, _ => rfl
    | 39, _ => rfl
    | 40, _ => rfl
    | 41, _ => rfl
    | 42, _ => rfl
    | 43, _ => rfl
    | 44, _ => rfl
    | 45, _ => rfl
    | 46, _ => rfl
    | 47, _ => rfl
    | 48, _ => rfl
    | 49, _ => rfl
    | 50, _ => rfl
    | 51, _ => rfl
    | 52, _ => rfl
    | n + 53, h => exact absurd h (by omega)) w1 is_Mod in_Mod hb1 hb2 kk
/-- what lies beyond an array's end is free -/
theorem j_refs {g : Bool} {i t n : Nat} {f f' : Nat → Option Nat} (hm : mem[i]? = some (.inl (t, n, .inr (.inr (.inr (.inr f)))))) (hf : ∀ j, j < n → f j = f' j) (kk : SJ g y d pc L st (mem.set i (.inl (t, n, .inr (.inr (.inr (.inr f')))))) bc bs Q) : SJ g y d pc L st mem bc bs Q := by
  intro l ad ex dA D A p e s m args below meth c H locs cells slots ls mc ms hI
  have h1 : H[ad i]? = some (arrV (dA t) n (fun j => va_rf ((f j).map ad))) := hI.2.2.1.1 i _ (x_w_at hm)
  have h2 : arrV (dA t) n (fun j => va_rf ((f j).map ad)) = arrV (dA t) n (fun j => va_rf ((f' j).map ad)) := arrV_eq (fun j hj => by rw [hf j hj])
  rw [h2] at h1
  exact kk ⟨hI.1, hI.2.1, hI.2.2.1.put hI.2.1.2.2.2.1 hm (q := .inl (t, n, .inr (.inr (.inr (.inr f'))))) h1 rfl (fun _ _ => rfl), hI.2.2.2.1, hI.2.2.2.2⟩
end NW
theorem cn_Hou_29 : x_cn "BracketHouse" 29 m_Tap_init 0 := ⟨cd_Tap_init, in_Tap, by decide, by decide +kernel, by decide, rfl, rfl, gi1 (i := 116) (by decide +kernel) (by decide +kernel)⟩
theorem cn_Hou_45 : x_cn "BracketHouse" 45 m_Ask_init 0 := ⟨cd_Ask_init, in_Ask, by decide, by decide +kernel, by decide, rfl, rfl, gi2 (i := 46) (by decide +kernel) (by decide +kernel)⟩
theorem cn_Hou_82 : x_cn "BracketHouse" 82 m_Num_init 0 := ⟨cd_Num_init, in_Num, by decide, by decide +kernel, by decide, rfl, rfl, gi2 (i := 215) (by decide +kernel) (by decide +kernel)⟩
theorem cn_Ask_11 : x_cn "BracketHouse$Asker" 11 m_Sum_init 0 := ⟨cd_Sum_init, in_Sum, by decide, by decide +kernel, by decide, rfl, rfl, gi2 (i := 52) (by decide +kernel) (by decide +kernel)⟩
theorem cn_Pap_48 : x_cn "BracketHouse$Paper" 48 m_Row_init 0 := ⟨cd_Row_init, in_Row, by decide, by decide +kernel, by decide, rfl, rfl, gi1 (i := 38) (by decide +kernel) (by decide +kernel)⟩
theorem cn_Run_24 : x_cn "BracketHouse$Runner" 24 m_Sum_init 0 := ⟨cd_Sum_init, in_Sum, by decide, by decide +kernel, by decide, rfl, rfl, gi2 (i := 52) (by decide +kernel) (by decide +kernel)⟩
theorem cn_Sta_11 : x_cn "BracketHouse$State" 11 m_Row_init 0 := ⟨cd_Row_init, in_Row, by decide, by decide +kernel, by decide, rfl, rfl, gi1 (i := 38) (by decide +kernel) (by decide +kernel)⟩
theorem n_Row_init {d : Nat} {Q : List xM → Option Value → Prop} (hQ : Q [.inr (5, [.ref 1, .int (ii 0), .ref 2, .ref 3, .ref 4, .int (ii 0), .int (ii 0)]), .inl (0, 20, .inl (ia (fun _ => 0))), .inl (0, 20, .inl (ia (fun _ => 0))), .inl (0, 20, .inl (ia (fun _ => 0))), .inl (0, 20, .inl (ia (fun _ => 0)))] none) : CT true m_Row_init (d + 1) [.ref 0] [.inr (5, [.null, .int (ii 0), .null, .null, .null, .int (ii 0), .int (ii 0)])] 4 80 Q := by
  refine CT.of (by decide) (Nat.le_of_ble_eq_true rfl) ?_
  show SJ _ _ _ _ [some (.ref 0)] [] _ _ _ _
  refine j_aload_n d_Row_init_0 rfl ?_
  refine j_objI d_Row_init_1 oi_Row_3 (Nat.le_of_ble_eq_true rfl) ?_
  refine j_aload_n d_Row_init_4 rfl ?_
  refine z_bipush d_Row_init_5 (by decide) ?_
  refine j_newa (t := 0) (N := 20) (a0 := (20, .inl (ia (fun _ => 0)))) d_Row_init_7 rfl (fun _ => rfl) (fun _ _ h => h) wd_a_int (fun _ _ => rfl) (by decide) (by decide) (by decide) (Nat.le_of_ble_eq_true rfl) (Nat.le_of_ble_eq_true rfl) ?_
  show SJ _ _ _ _ _ [.ref 1, .ref 0] [.inr (5, [.null, .int (ii 0), .null, .null, .null, .int (ii 0), .int (ii 0)]), .inl (0, 20, .inl (ia (fun _ => 0)))] _ _ _
  refine j_putF (ci := 5) (k := 0) d_Row_init_9 f_Row_9 ⟨_, rfl, rfl, rfl⟩ rfl (fun q h => by cases h; rfl) rfl (Nat.le_of_ble_eq_true rfl) x_okA ?_
  show SJ _ _ _ _ _ [] [.inr (5, [.ref 1, .int (ii 0), .null, .null, .null, .int (ii 0), .int (ii 0)]), .inl (0, 20, .inl (ia (fun _ => 0)))] _ _ _
  refine j_aload_n d_Row_init_12 rfl ?_
  refine z_iconst d_Row_init_13 ?_
  refine j_putf (ci := 5) (k := 1) d_Row_init_14 f_Row_15 ⟨_, rfl, rfl, rfl⟩ rfl (Nat.le_of_ble_eq_true rfl) x_okI ?_
  show SJ _ _ _ _ _ [] [.inr (5, [.ref 1, .int (ii 0), .null, .null, .null, .int (ii 0), .int (ii 0)]), .inl (0, 20, .inl (ia (fun _ => 0)))] _ _ _
  refine j_aload_n d_Row_init_17 rfl ?_
  refine z_bipush d_Row_init_18 (by decide) ?_
  refine j_newa (t := 0) (N := 20) (a0 := (20, .inl (ia (fun _ => 0)))) d_Row_init_20 rfl (fun _ => rfl) (fun _ _ h => h) wd_a_int (fun _ _ => rfl) (by decide) (by decide) (by decide) (Nat.le_of_ble_eq_true rfl) (Nat.le_of_ble_eq_true rfl) ?_
  show SJ _ _ _ _ _ [.ref 2, .ref 0] [.inr (5, [.ref 1, .int (ii 0), .null, .null, .null, .int (ii 0), .int (ii 0)]), .inl (0, 20, .inl (ia (fun _ => 0))), .inl (0, 20, .inl (ia (fun _ => 0)))] _ _ _
  refine j_putF (ci := 5) (k := 2) d_Row_init_22 f_Row_19 ⟨_, rfl, rfl, rfl⟩ rfl (fun q h => by cases h; rfl) rfl (Nat.le_of_ble_eq_true rfl) x_okA ?_
  show SJ _ _ _ _ _ [] [.inr (5, [.ref 1, .int (ii 0), .ref 2, .null, .null, .int (ii 0), .int (ii 0)]), .inl (0, 20, .inl (ia (fun _ => 0))), .inl (0, 20, .inl (ia (fun _ => 0)))] _ _ _
  refine j_aload_n d_Row_init_25 rfl ?_
  refine z_bipush d_Row_init_26 (by decide) ?_
  refine j_newa (t := 0) (N := 20) (a0 := (20, .inl (ia (fun _ => 0)))) d_Row_init_28 rfl (fun _ => rfl) (fun _ _ h => h) wd_a_int (fun _ _ => rfl) (by decide) (by decide) (by decide) (Nat.le_of_ble_eq_true rfl) (Nat.le_of_ble_eq_true rfl) ?_
  show SJ _ _ _ _ _ [.ref 3, .ref 0] [.inr (5, [.ref 1, .int (ii 0), .ref 2, .null, .null, .int (ii 0), .int (ii 0)]), .inl (0, 20, .inl (ia (fun _ => 0))), .inl (0, 20, .inl (ia (fun _ => 0))), .inl (0, 20, .inl (ia (fun _ => 0)))] _ _ _
  refine j_putF (ci := 5) (k := 3) d_Row_init_30 f_Row_22 ⟨_, rfl, rfl, rfl⟩ rfl (fun q h => by cases h; rfl) rfl (Nat.le_of_ble_eq_true rfl) x_okA ?_
  show SJ _ _ _ _ _ [] [.inr (5, [.ref 1, .int (ii 0), .ref 2, .ref 3, .null, .int (ii 0), .int (ii 0)]), .inl (0, 20, .inl (ia (fun _ => 0))), .inl (0, 20, .inl (ia (fun _ => 0))), .inl (0, 20, .inl (ia (fun _ => 0)))] _ _ _
  refine j_aload_n d_Row_init_33 rfl ?_
  refine z_bipush d_Row_init_34 (by decide) ?_
  refine j_newa (t := 0) (N := 20) (a0 := (20, .inl (ia (fun _ => 0)))) d_Row_init_36 rfl (fun _ => rfl) (fun _ _ h => h) wd_a_int (fun _ _ => rfl) (by decide) (by decide) (by decide) (Nat.le_of_ble_eq_true rfl) (Nat.le_of_ble_eq_true rfl) ?_
  show SJ _ _ _ _ _ [.ref 4, .ref 0] [.inr (5, [.ref 1, .int (ii 0), .ref 2, .ref 3, .null, .int (ii 0), .int (ii 0)]), .inl (0, 20, .inl (ia (fun _ => 0))), .inl (0, 20, .inl (ia (fun _ => 0))), .inl (0, 20, .inl (ia (fun _ => 0))), .inl (0, 20, .inl (ia (fun _ => 0)))] _ _ _
  refine j_putF (ci := 5) (k := 4) d_Row_init_38 f_Row_25 ⟨_, rfl, rfl, rfl⟩ rfl (fun q h => by cases h; rfl) rfl (Nat.le_of_ble_eq_true rfl) x_okA ?_
  show SJ _ _ _ _ _ [] [.inr (5, [.ref 1, .int (ii 0), .ref 2, .ref 3, .ref 4, .int (ii 0), .int (ii 0)]), .inl (0, 20, .inl (ia (fun _ => 0))), .inl (0, 20, .inl (ia (fun _ => 0))), .inl (0, 20, .inl (ia (fun _ => 0))), .inl (0, 20, .inl (ia (fun _ => 0)))] _ _ _
  refine j_aload_n d_Row_init_41 rfl ?_
  refine z_iconst d_Row_init_42 ?_
  refine j_putf (ci := 5) (k := 5) d_Row_init_43 f_Row_28 ⟨_, rfl, rfl, rfl⟩ rfl (Nat.le_of_ble_eq_true rfl) x_okI ?_
  show SJ _ _ _ _ _ [] [.inr (5, [.ref 1, .int (ii 0), .ref 2, .ref 3, .ref 4, .int (ii 0), .int (ii 0)]), .inl (0, 20, .inl (ia (fun _ => 0))), .inl (0, 20, .inl (ia (fun _ => 0))), .inl (0, 20, .inl (ia (fun _ => 0))), .inl (0, 20, .inl (ia (fun _ => 0)))] _ _ _
  refine j_aload_n d_Row_init_46 rfl ?_
  refine z_iconst d_Row_init_47 ?_
  refine j_putf (ci := 5) (k := 6) d_Row_init_48 f_Row_31 ⟨_, rfl, rfl, rfl⟩ rfl (Nat.le_of_ble_eq_true rfl) x_ok0 ?_
  show SJ _ _ _ _ _ [] [.inr (5, [.ref 1, .int (ii 0), .ref 2, .ref 3, .ref 4, .int (ii 0), .int (ii 0)]), .inl (0, 20, .inl (ia (fun _ => 0))), .inl (0, 20, .inl (ia (fun _ => 0))), .inl (0, 20, .inl (ia (fun _ => 0))), .inl (0, 20, .inl (ia (fun _ => 0)))] _ _ _
  exact j_return rfl d_Row_init_51 hQ
theorem n_Tex_init {d : Nat} {Q : List xM → Option Value → Prop} (hQ : Q [.inr (10, [.ref 1, .ref 2, .ref 3, .ref 4, .ref 5, .ref 6, .ref 7, .int (ii 0), .int (ii 0)]), .inl (0, 12, .inl (ia (fun _ => 0))), .inl (0, 12, .inl (ia (fun _ => 0))), .inl (0, 12, .inl (ia (fun _ => 0))), .inl (0, 12, .inl (ia (fun _ => 0))), .inl (0, 12, .inl (ia (fun _ => 0))), .inl (0, 436, .inl (ia (fun _ => 0))), .inl (0, 436, .inl (ia (fun _ => 0)))] none) : CT true m_Tex_init (d + 1) [.ref 0] [.inr (10, [.null, .null, .null, .null, .null, .null, .null, .int (ii 0), .int (ii 0)])] 7 932 Q := by
  refine CT.of (by decide) (Nat.le_of_ble_eq_true rfl) ?_
  show SJ _ _ _ _ [some (.ref 0)] [] _ _ _ _
  refine j_aload_n d_Tex_init_0 rfl ?_
  refine j_objI d_Tex_init_1 oi_Tex_3 (Nat.le_of_ble_eq_true rfl) ?_
  refine j_aload_n d_Tex_init_4 rfl ?_
  refine z_iconst d_Tex_init_5 ?_
  refine j_putf (ci := 10) (k := 7) d_Tex_init_6 f_Tex_9 ⟨_, rfl, rfl, rfl⟩ rfl (Nat.le_of_ble_eq_true rfl) x_okI ?_
  show SJ _ _ _ _ _ [] [.inr (10, [.null, .null, .null, .null, .null, .null, .null, .int (ii 0), .int (ii 0)])] _ _ _
  refine j_aload_n d_Tex_init_9 rfl ?_
  refine z_iconst d_Tex_init_10 ?_
  refine j_putf (ci := 10) (k := 8) d_Tex_init_11 f_Tex_15 ⟨_, rfl, rfl, rfl⟩ rfl (Nat.le_of_ble_eq_true rfl) x_okI ?_
  show SJ _ _ _ _ _ [] [.inr (10, [.null, .null, .null, .null, .null, .null, .null, .int (ii 0), .int (ii 0)])] _ _ _
  refine j_aload_n d_Tex_init_14 rfl ?_
  refine z_bipush d_Tex_init_15 (by decide) ?_
  refine j_newa (t := 0) (N := 12) (a0 := (12, .inl (ia (fun _ => 0)))) d_Tex_init_17 rfl (fun _ => rfl) (fun _ _ h => h) wd_a_int (fun _ _ => rfl) (by decide) (by decide) (by decide) (Nat.le_of_ble_eq_true rfl) (Nat.le_of_ble_eq_true rfl) ?_
  show SJ _ _ _ _ _ [.ref 1, .ref 0] [.inr (10, [.null, .null, .null, .null, .null, .null, .null, .int (ii 0), .int (ii 0)]), .inl (0, 12, .inl (ia (fun _ => 0)))] _ _ _
  refine j_putF (ci := 10) (k := 0) d_Tex_init_19 f_Tex_18 ⟨_, rfl, rfl, rfl⟩ rfl (fun q h => by cases h; rfl) rfl (Nat.le_of_ble_eq_true rfl) x_okA ?_
  show SJ _ _ _ _ _ [] [.inr (10, [.ref 1, .null, .null, .null, .null, .null, .null, .int (ii 0), .int (ii 0)]), .inl (0, 12, .inl (ia (fun _ => 0)))] _ _ _
  refine j_aload_n d_Tex_init_22 rfl ?_
  refine z_bipush d_Tex_init_23 (by decide) ?_
  refine j_newa (t := 0) (N := 12) (a0 := (12, .inl (ia (fun _ => 0)))) d_Tex_init_25 rfl (fun _ => rfl) (fun _ _ h => h) wd_a_int (fun _ _ => rfl) (by decide) (by decide) (by decide) (Nat.le_of_ble_eq_true rfl) (Nat.le_of_ble_eq_true rfl) ?_
  show SJ _ _ _ _ _ [.ref 2, .ref 0] [.inr (10, [.ref 1, .null, .null, .null, .null, .null, .null, .int (ii 0), .int (ii 0)]), .inl (0, 12, .inl (ia (fun _ => 0))), .inl (0, 12, .inl (ia (fun _ => 0)))] _ _ _
  refine j_putF (ci := 10) (k := 1) d_Tex_init_27 f_Tex_22 ⟨_, rfl, rfl, rfl⟩ rfl (fun q h => by cases h; rfl) rfl (Nat.le_of_ble_eq_true rfl) x_okA ?_
  show SJ _ _ _ _ _ [] [.inr (10, [.ref 1, .ref 2, .null, .null, .null, .null, .null, .int (ii 0), .int (ii 0)]), .inl (0, 12, .inl (ia (fun _ => 0))), .inl (0, 12, .inl (ia (fun _ => 0)))] _ _ _
  refine j_aload_n d_Tex_init_30 rfl ?_
  refine z_bipush d_Tex_init_31 (by decide) ?_
  refine j_newa (t := 0) (N := 12) (a0 := (12, .inl (ia (fun _ => 0)))) d_Tex_init_33 rfl (fun _ => rfl) (fun _ _ h => h) wd_a_int (fun _ _ => rfl) (by decide) (by decide) (by decide) (Nat.le_of_ble_eq_true rfl) (Nat.le_of_ble_eq_true rfl) ?_
  show SJ _ _ _ _ _ [.ref 3, .ref 0] [.inr (10, [.ref 1, .ref 2, .null, .null, .null, .null, .null, .int (ii 0), .int (ii 0)]), .inl (0, 12, .inl (ia (fun _ => 0))), .inl (0, 12, .inl (ia (fun _ => 0))), .inl (0, 12, .inl (ia (fun _ => 0)))] _ _ _
  refine j_putF (ci := 10) (k := 2) d_Tex_init_35 f_Tex_25 ⟨_, rfl, rfl, rfl⟩ rfl (fun q h => by cases h; rfl) rfl (Nat.le_of_ble_eq_true rfl) x_okA ?_
  show SJ _ _ _ _ _ [] [.inr (10, [.ref 1, .ref 2, .ref 3, .null, .null, .null, .null, .int (ii 0), .int (ii 0)]), .inl (0, 12, .inl (ia (fun _ => 0))), .inl (0, 12, .inl (ia (fun _ => 0))), .inl (0, 12, .inl (ia (fun _ => 0)))] _ _ _
  refine j_aload_n d_Tex_init_38 rfl ?_
  refine z_bipush d_Tex_init_39 (by decide) ?_
  refine j_newa (t := 0) (N := 12) (a0 := (12, .inl (ia (fun _ => 0)))) d_Tex_init_41 rfl (fun _ => rfl) (fun _ _ h => h) wd_a_int (fun _ _ => rfl) (by decide) (by decide) (by decide) (Nat.le_of_ble_eq_true rfl) (Nat.le_of_ble_eq_true rfl) ?_
  show SJ _ _ _ _ _ [.ref 4, .ref 0] [.inr (10, [.ref 1, .ref 2, .ref 3, .null, .null, .null, .null, .int (ii 0), .int (ii 0)]), .inl (0, 12, .inl (ia (fun _ => 0))), .inl (0, 12, .inl (ia (fun _ => 0))), .inl (0, 12, .inl (ia (fun _ => 0))), .inl (0, 12, .inl (ia (fun _ => 0)))] _ _ _
  refine j_putF (ci := 10) (k := 3) d_Tex_init_43 f_Tex_28 ⟨_, rfl, rfl, rfl⟩ rfl (fun q h => by cases h; rfl) rfl (Nat.le_of_ble_eq_true rfl) x_okA ?_
  show SJ _ _ _ _ _ [] [.inr (10, [.ref 1, .ref 2, .ref 3, .ref 4, .null, .null, .null, .int (ii 0), .int (ii 0)]), .inl (0, 12, .inl (ia (fun _ => 0))), .inl (0, 12, .inl (ia (fun _ => 0))), .inl (0, 12, .inl (ia (fun _ => 0))), .inl (0, 12, .inl (ia (fun _ => 0)))] _ _ _
  refine j_aload_n d_Tex_init_46 rfl ?_
  refine z_bipush d_Tex_init_47 (by decide) ?_
  refine j_newa (t := 0) (N := 12) (a0 := (12, .inl (ia (fun _ => 0)))) d_Tex_init_49 rfl (fun _ => rfl) (fun _ _ h => h) wd_a_int (fun _ _ => rfl) (by decide) (by decide) (by decide) (Nat.le_of_ble_eq_true rfl) (Nat.le_of_ble_eq_true rfl) ?_
  show SJ _ _ _ _ _ [.ref 5, .ref 0] [.inr (10, [.ref 1, .ref 2, .ref 3, .ref 4, .null, .null, .null, .int (ii 0), .int (ii 0)]), .inl (0, 12, .inl (ia (fun _ => 0))), .inl (0, 12, .inl (ia (fun _ => 0))), .inl (0, 12, .inl (ia (fun _ => 0))), .inl (0, 12, .inl (ia (fun _ => 0))), .inl (0, 12, .inl (ia (fun _ => 0)))] _ _ _
  refine j_putF (ci := 10) (k := 4) d_Tex_init_51 f_Tex_31 ⟨_, rfl, rfl, rfl⟩ rfl (fun q h => by cases h; rfl) rfl (Nat.le_of_ble_eq_true rfl) x_okA ?_
  show SJ _ _ _ _ _ [] [.inr (10, [.ref 1, .ref 2, .ref 3, .ref 4, .ref 5, .null, .null, .int (ii 0), .int (ii 0)]), .inl (0, 12, .inl (ia (fun _ => 0))), .inl (0, 12, .inl (ia (fun _ => 0))), .inl (0, 12, .inl (ia (fun _ => 0))), .inl (0, 12, .inl (ia (fun _ => 0))), .inl (0, 12, .inl (ia (fun _ => 0)))] _ _ _
  refine j_aload_n d_Tex_init_54 rfl ?_
  refine z_sipush d_Tex_init_55 (by decide) ?_
  refine j_newa (t := 0) (N := 436) (a0 := (436, .inl (ia (fun _ => 0)))) d_Tex_init_58 rfl (fun _ => rfl) (fun _ _ h => h) wd_a_int (fun _ _ => rfl) (by decide) (by decide) (by decide) (Nat.le_of_ble_eq_true rfl) (Nat.le_of_ble_eq_true rfl) ?_
  show SJ _ _ _ _ _ [.ref 6, .ref 0] [.inr (10, [.ref 1, .ref 2, .ref 3, .ref 4, .ref 5, .null, .null, .int (ii 0), .int (ii 0)]), .inl (0, 12, .inl (ia (fun _ => 0))), .inl (0, 12, .inl (ia (fun _ => 0))), .inl (0, 12, .inl (ia (fun _ => 0))), .inl (0, 12, .inl (ia (fun _ => 0))), .inl (0, 12, .inl (ia (fun _ => 0))), .inl (0, 436, .inl (ia (fun _ => 0)))] _ _ _
  refine j_putF (ci := 10) (k := 5) d_Tex_init_60 f_Tex_34 ⟨_, rfl, rfl, rfl⟩ rfl (fun q h => by cases h; rfl) rfl (Nat.le_of_ble_eq_true rfl) x_okA ?_
  show SJ _ _ _ _ _ [] [.inr (10, [.ref 1, .ref 2, .ref 3, .ref 4, .ref 5, .ref 6, .null, .int (ii 0), .int (ii 0)]), .inl (0, 12, .inl (ia (fun _ => 0))), .inl (0, 12, .inl (ia (fun _ => 0))), .inl (0, 12, .inl (ia (fun _ => 0))), .inl (0, 12, .inl (ia (fun _ => 0))), .inl (0, 12, .inl (ia (fun _ => 0))), .inl (0, 436, .inl (ia (fun _ => 0)))] _ _ _
  refine j_aload_n d_Tex_init_63 rfl ?_
  refine z_sipush d_Tex_init_64 (by decide) ?_
  refine j_newa (t := 0) (N := 436) (a0 := (436, .inl (ia (fun _ => 0)))) d_Tex_init_67 rfl (fun _ => rfl) (fun _ _ h => h) wd_a_int (fun _ _ => rfl) (by decide) (by decide) (by decide) (Nat.le_of_ble_eq_true rfl) (Nat.le_of_ble_eq_true rfl) ?_
  show SJ _ _ _ _ _ [.ref 7, .ref 0] [.inr (10, [.ref 1, .ref 2, .ref 3, .ref 4, .ref 5, .ref 6, .null, .int (ii 0), .int (ii 0)]), .inl (0, 12, .inl (ia (fun _ => 0))), .inl (0, 12, .inl (ia (fun _ => 0))), .inl (0, 12, .inl (ia (fun _ => 0))), .inl (0, 12, .inl (ia (fun _ => 0))), .inl (0, 12, .inl (ia (fun _ => 0))), .inl (0, 436, .inl (ia (fun _ => 0))), .inl (0, 436, .inl (ia (fun _ => 0)))] _ _ _
  refine j_putF (ci := 10) (k := 6) d_Tex_init_69 f_Tex_37 ⟨_, rfl, rfl, rfl⟩ rfl (fun q h => by cases h; rfl) rfl (Nat.le_of_ble_eq_true rfl) x_okA ?_
  show SJ _ _ _ _ _ [] [.inr (10, [.ref 1, .ref 2, .ref 3, .ref 4, .ref 5, .ref 6, .ref 7, .int (ii 0), .int (ii 0)]), .inl (0, 12, .inl (ia (fun _ => 0))), .inl (0, 12, .inl (ia (fun _ => 0))), .inl (0, 12, .inl (ia (fun _ => 0))), .inl (0, 12, .inl (ia (fun _ => 0))), .inl (0, 12, .inl (ia (fun _ => 0))), .inl (0, 436, .inl (ia (fun _ => 0))), .inl (0, 436, .inl (ia (fun _ => 0)))] _ _ _
  exact j_return rfl d_Tex_init_72 hQ
theorem n_Sum_init {d : Nat} {Q : List xM → Option Value → Prop} (hQ : Q [.inr (8, [.int (ii 0), .ref 1]), .inl (0, 51, .inl (ia (fun _ => 0)))] none) : CT true m_Sum_init (d + 1) [.ref 0] [.inr (8, [.int (ii 0), .null])] 1 51 Q := by
  refine CT.of (by decide) (Nat.le_of_ble_eq_true rfl) ?_
  show SJ _ _ _ _ [some (.ref 0)] [] _ _ _ _
  refine j_aload_n d_Sum_init_0 rfl ?_
  refine j_objI d_Sum_init_1 oi_Sum_3 (Nat.le_of_ble_eq_true rfl) ?_
  refine j_aload_n d_Sum_init_4 rfl ?_
  refine z_iconst d_Sum_init_5 ?_
  refine j_putf (ci := 8) (k := 0) d_Sum_init_6 f_Sum_9 ⟨_, rfl, rfl, rfl⟩ rfl (Nat.le_of_ble_eq_true rfl) x_ok0 ?_
  show SJ _ _ _ _ _ [] [.inr (8, [.int (ii 0), .null])] _ _ _
  refine j_aload_n d_Sum_init_9 rfl ?_
  refine z_bipush d_Sum_init_10 (by decide) ?_
  refine j_newa (t := 0) (N := 51) (a0 := (51, .inl (ia (fun _ => 0)))) d_Sum_init_12 rfl (fun _ => rfl) (fun _ _ h => h) wd_a_int (fun _ _ => rfl) (by decide) (by decide) (by decide) (Nat.le_of_ble_eq_true rfl) (Nat.le_of_ble_eq_true rfl) ?_
  show SJ _ _ _ _ _ [.ref 1, .ref 0] [.inr (8, [.int (ii 0), .null]), .inl (0, 51, .inl (ia (fun _ => 0)))] _ _ _
  refine j_putF (ci := 8) (k := 1) d_Sum_init_14 f_Sum_15 ⟨_, rfl, rfl, rfl⟩ rfl (fun q h => by cases h; rfl) rfl (Nat.le_of_ble_eq_true rfl) x_okA ?_
  show SJ _ _ _ _ _ [] [.inr (8, [.int (ii 0), .ref 1]), .inl (0, 51, .inl (ia (fun _ => 0)))] _ _ _
  exact j_return rfl d_Sum_init_17 hQ
theorem n_Num_init {d : Nat} {Q : List xM → Option Value → Prop} (hQ : Q [.inr (3, [.ref 1, .ref 27, .ref 28, .ref 29]), .inl (8, 25, .inr (.inr (.inr (.inr (fun i => some (1 + 1 + i)))))), .inl (3, 14, .inr (.inl (la (fun _ => 0)))), .inl (3, 14, .inr (.inl (la (fun _ => 0)))), .inl (3, 14, .inr (.inl (la (fun _ => 0)))), .inl (3, 14, .inr (.inl (la (fun _ => 0)))), .inl (3, 14, .inr (.inl (la (fun _ => 0)))), .inl (3, 14, .inr (.inl (la (fun _ => 0)))), .inl (3, 14, .inr (.inl (la (fun _ => 0)))), .inl (3, 14, .inr (.inl (la (fun _ => 0)))), .inl (3, 14, .inr (.inl (la (fun _ => 0)))), .inl (3, 14, .inr (.inl (la (fun _ => 0)))), .inl (3, 14, .inr (.inl (la (fun _ => 0)))), .inl (3, 14, .inr (.inl (la (fun _ => 0)))), .inl (3, 14, .inr (.inl (la (fun _ => 0)))), .inl (3, 14, .inr (.inl (la (fun _ => 0)))), .inl (3, 14, .inr (.inl (la (fun _ => 0)))), .inl (3, 14, .inr (.inl (la (fun _ => 0)))), .inl (3, 14, .inr (.inl (la (fun _ => 0)))), .inl (3, 14, .inr (.inl (la (fun _ => 0)))), .inl (3, 14, .inr (.inl (la (fun _ => 0)))), .inl (3, 14, .inr (.inl (la (fun _ => 0)))), .inl (3, 14, .inr (.inl (la (fun _ => 0)))), .inl (3, 14, .inr (.inl (la (fun _ => 0)))), .inl (3, 14, .inr (.inl (la (fun _ => 0)))), .inl (3, 14, .inr (.inl (la (fun _ => 0)))), .inl (3, 14, .inr (.inl (la (fun _ => 0)))), .inl (0, 13, .inl (ia (fun _ => 0))), .inl (3, 62, .inr (.inl (la (fun _ => 0)))), .inl (3, 62, .inr (.inl (la (fun _ => 0))))] none) : CT true m_Num_init (d + 1) [.ref 0] [.inr (3, [.null, .null, .null, .null])] 29 512 Q := by
  refine CT.of (by decide) (Nat.le_of_ble_eq_true rfl) ?_
  show SJ _ _ _ _ [some (.ref 0)] [] _ _ _ _
  refine j_aload_n d_Num_init_0 rfl ?_
  refine j_objI d_Num_init_1 oi_Num_3 (Nat.le_of_ble_eq_true rfl) ?_
  refine j_aload_n d_Num_init_4 rfl ?_
  refine z_bipush d_Num_init_5 (by decide) ?_
  refine z_bipush d_Num_init_7 (by decide) ?_
  refine j_multi (B := 1) (t0 := 3) (t := 8) (N := 25) (M := 14) (ty := .long) (ad0 := "[[J") (a0 := (14, .inr (.inl (la (fun _ => 0))))) (dv := .long 0) rfl d_Num_init_9 (Or.inr ⟨rfl, rfl, rfl⟩) (by decide) cl_Num_9 wd_a_long rfl (fun _ _ => rfl) (by decide) (by decide) (by decide) (by decide) (Nat.le_of_ble_eq_true rfl) (Nat.le_of_ble_eq_true rfl) (Nat.le_of_ble_eq_true rfl) (Nat.le_of_ble_eq_true rfl) ?_
  show SJ _ _ _ _ _ [.ref 1, .ref 0] [.inr (3, [.null, .null, .null, .null]), .inl (8, 25, .inr (.inr (.inr (.inr (fun i => some (1 + 1 + i)))))), .inl (3, 14, .inr (.inl (la (fun _ => 0)))), .inl (3, 14, .inr (.inl (la (fun _ => 0)))), .inl (3, 14, .inr (.inl (la (fun _ => 0)))), .inl (3, 14, .inr (.inl (la (fun _ => 0)))), .inl (3, 14, .inr (.inl (la (fun _ => 0)))), .inl (3, 14, .inr (.inl (la (fun _ => 0)))), .inl (3, 14, .inr (.inl (la (fun _ => 0)))), .inl (3, 14, .inr (.inl (la (fun _ => 0)))), .inl (3, 14, .inr (.inl (la (fun _ => 0)))), .inl (3, 14, .inr (.inl (la (fun _ => 0)))), .inl (3, 14, .inr (.inl (la (fun _ => 0)))), .inl (3, 14, .inr (.inl (la (fun _ => 0)))), .inl (3, 14, .inr (.inl (la (fun _ => 0)))), .inl (3, 14, .inr (.inl (la (fun _ => 0)))), .inl (3, 14, .inr (.inl (la (fun _ => 0)))), .inl (3, 14, .inr (.inl (la (fun _ => 0)))), .inl (3, 14, .inr (.inl (la (fun _ => 0)))), .inl (3, 14, .inr (.inl (la (fun _ => 0)))), .inl (3, 14, .inr (.inl (la (fun _ => 0)))), .inl (3, 14, .inr (.inl (la (fun _ => 0)))), .inl (3, 14, .inr (.inl (la (fun _ => 0)))), .inl (3, 14, .inr (.inl (la (fun _ => 0)))), .inl (3, 14, .inr (.inl (la (fun _ => 0)))), .inl (3, 14, .inr (.inl (la (fun _ => 0)))), .inl (3, 14, .inr (.inl (la (fun _ => 0))))] _ _ _
  refine j_putF (ci := 3) (k := 0) d_Num_init_13 f_Num_11 ⟨_, rfl, rfl, rfl⟩ rfl (fun q h => by cases h; rfl) rfl (Nat.le_of_ble_eq_true rfl) x_okA ?_
  show SJ _ _ _ _ _ [] [.inr (3, [.ref 1, .null, .null, .null]), .inl (8, 25, .inr (.inr (.inr (.inr (fun i => some (1 + 1 + i)))))), .inl (3, 14, .inr (.inl (la (fun _ => 0)))), .inl (3, 14, .inr (.inl (la (fun _ => 0)))), .inl (3, 14, .inr (.inl (la (fun _ => 0)))), .inl (3, 14, .inr (.inl (la (fun _ => 0)))), .inl (3, 14, .inr (.inl (la (fun _ => 0)))), .inl (3, 14, .inr (.inl (la (fun _ => 0)))), .inl (3, 14, .inr (.inl (la (fun _ => 0)))), .inl (3, 14, .inr (.inl (la (fun _ => 0)))), .inl (3, 14, .inr (.inl (la (fun _ => 0)))), .inl (3, 14, .inr (.inl (la (fun _ => 0)))), .inl (3, 14, .inr (.inl (la (fun _ => 0)))), .inl (3, 14, .inr (.inl (la (fun _ => 0)))), .inl (3, 14, .inr (.inl (la (fun _ => 0)))), .inl (3, 14, .inr (.inl (la (fun _ => 0)))), .inl (3, 14, .inr (.inl (la (fun _ => 0)))), .inl (3, 14, .inr (.inl (la (fun _ => 0)))), .inl (3, 14, .inr (.inl (la (fun _ => 0)))), .inl (3, 14, .inr (.inl (la (fun _ => 0)))), .inl (3, 14, .inr (.inl (la (fun _ => 0)))), .inl (3, 14, .inr (.inl (la (fun _ => 0)))), .inl (3, 14, .inr (.inl (la (fun _ => 0)))), .inl (3, 14, .inr (.inl (la (fun _ => 0)))), .inl (3, 14, .inr (.inl (la (fun _ => 0)))), .inl (3, 14, .inr (.inl (la (fun _ => 0)))), .inl (3, 14, .inr (.inl (la (fun _ => 0))))] _ _ _
  refine j_aload_n d_Num_init_16 rfl ?_
  refine z_bipush d_Num_init_17 (by decide) ?_
  refine j_newa (t := 0) (N := 13) (a0 := (13, .inl (ia (fun _ => 0)))) d_Num_init_19 rfl (fun _ => rfl) (fun _ _ h => h) wd_a_int (fun _ _ => rfl) (by decide) (by decide) (by decide) (Nat.le_of_ble_eq_true rfl) (Nat.le_of_ble_eq_true rfl) ?_
  show SJ _ _ _ _ _ [.ref 27, .ref 0] [.inr (3, [.ref 1, .null, .null, .null]), .inl (8, 25, .inr (.inr (.inr (.inr (fun i => some (1 + 1 + i)))))), .inl (3, 14, .inr (.inl (la (fun _ => 0)))), .inl (3, 14, .inr (.inl (la (fun _ => 0)))), .inl (3, 14, .inr (.inl (la (fun _ => 0)))), .inl (3, 14, .inr (.inl (la (fun _ => 0)))), .inl (3, 14, .inr (.inl (la (fun _ => 0)))), .inl (3, 14, .inr (.inl (la (fun _ => 0)))), .inl (3, 14, .inr (.inl (la (fun _ => 0)))), .inl (3, 14, .inr (.inl (la (fun _ => 0)))), .inl (3, 14, .inr (.inl (la (fun _ => 0)))), .inl (3, 14, .inr (.inl (la (fun _ => 0)))), .inl (3, 14, .inr (.inl (la (fun _ => 0)))), .inl (3, 14, .inr (.inl (la (fun _ => 0)))), .inl (3, 14, .inr (.inl (la (fun _ => 0)))), .inl (3, 14, .inr (.inl (la (fun _ => 0)))), .inl (3, 14, .inr (.inl (la (fun _ => 0)))), .inl (3, 14, .inr (.inl (la (fun _ => 0)))), .inl (3, 14, .inr (.inl (la (fun _ => 0)))), .inl (3, 14, .inr (.inl (la (fun _ => 0)))), .inl (3, 14, .inr (.inl (la (fun _ => 0)))), .inl (3, 14, .inr (.inl (la (fun _ => 0)))), .inl (3, 14, .inr (.inl (la (fun _ => 0)))), .inl (3, 14, .inr (.inl (la (fun _ => 0)))), .inl (3, 14, .inr (.inl (la (fun _ => 0)))), .inl (3, 14, .inr (.inl (la (fun _ => 0)))), .inl (3, 14, .inr (.inl (la (fun _ => 0)))), .inl (0, 13, .inl (ia (fun _ => 0)))] _ _ _
  refine j_putF (ci := 3) (k := 1) d_Num_init_21 f_Num_16 ⟨_, rfl, rfl, rfl⟩ rfl (fun q h => by cases h; rfl) rfl (Nat.le_of_ble_eq_true rfl) x_okA ?_
  show SJ _ _ _ _ _ [] [.inr (3, [.ref 1, .ref 27, .null, .null]), .inl (8, 25, .inr (.inr (.inr (.inr (fun i => some (1 + 1 + i)))))), .inl (3, 14, .inr (.inl (la (fun _ => 0)))), .inl (3, 14, .inr (.inl (la (fun _ => 0)))), .inl (3, 14, .inr (.inl (la (fun _ => 0)))), .inl (3, 14, .inr (.inl (la (fun _ => 0)))), .inl (3, 14, .inr (.inl (la (fun _ => 0)))), .inl (3, 14, .inr (.inl (la (fun _ => 0)))), .inl (3, 14, .inr (.inl (la (fun _ => 0)))), .inl (3, 14, .inr (.inl (la (fun _ => 0)))), .inl (3, 14, .inr (.inl (la (fun _ => 0)))), .inl (3, 14, .inr (.inl (la (fun _ => 0)))), .inl (3, 14, .inr (.inl (la (fun _ => 0)))), .inl (3, 14, .inr (.inl (la (fun _ => 0)))), .inl (3, 14, .inr (.inl (la (fun _ => 0)))), .inl (3, 14, .inr (.inl (la (fun _ => 0)))), .inl (3, 14, .inr (.inl (la (fun _ => 0)))), .inl (3, 14, .inr (.inl (la (fun _ => 0)))), .inl (3, 14, .inr (.inl (la (fun _ => 0)))), .inl (3, 14, .inr (.inl (la (fun _ => 0)))), .inl (3, 14, .inr (.inl (la (fun _ => 0)))), .inl (3, 14, .inr (.inl (la (fun _ => 0)))), .inl (3, 14, .inr (.inl (la (fun _ => 0)))), .inl (3, 14, .inr (.inl (la (fun _ => 0)))), .inl (3, 14, .inr (.inl (la (fun _ => 0)))), .inl (3, 14, .inr (.inl (la (fun _ => 0)))), .inl (3, 14, .inr (.inl (la (fun _ => 0)))), .inl (0, 13, .inl (ia (fun _ => 0)))] _ _ _
  refine j_aload_n d_Num_init_24 rfl ?_
  refine z_bipush d_Num_init_25 (by decide) ?_
  refine j_newa (t := 3) (N := 62) (a0 := (62, .inr (.inl (la (fun _ => 0))))) d_Num_init_27 rfl (fun _ => rfl) (fun _ _ h => h) wd_a_long (fun _ _ => rfl) (by decide) (by decide) (by decide) (Nat.le_of_ble_eq_true rfl) (Nat.le_of_ble_eq_true rfl) ?_
  show SJ _ _ _ _ _ [.ref 28, .ref 0] [.inr (3, [.ref 1, .ref 27, .null, .null]), .inl (8, 25, .inr (.inr (.inr (.inr (fun i => some (1 + 1 + i)))))), .inl (3, 14, .inr (.inl (la (fun _ => 0)))), .inl (3, 14, .inr (.inl (la (fun _ => 0)))), .inl (3, 14, .inr (.inl (la (fun _ => 0)))), .inl (3, 14, .inr (.inl (la (fun _ => 0)))), .inl (3, 14, .inr (.inl (la (fun _ => 0)))), .inl (3, 14, .inr (.inl (la (fun _ => 0)))), .inl (3, 14, .inr (.inl (la (fun _ => 0)))), .inl (3, 14, .inr (.inl (la (fun _ => 0)))), .inl (3, 14, .inr (.inl (la (fun _ => 0)))), .inl (3, 14, .inr (.inl (la (fun _ => 0)))), .inl (3, 14, .inr (.inl (la (fun _ => 0)))), .inl (3, 14, .inr (.inl (la (fun _ => 0)))), .inl (3, 14, .inr (.inl (la (fun _ => 0)))), .inl (3, 14, .inr (.inl (la (fun _ => 0)))), .inl (3, 14, .inr (.inl (la (fun _ => 0)))), .inl (3, 14, .inr (.inl (la (fun _ => 0)))), .inl (3, 14, .inr (.inl (la (fun _ => 0)))), .inl (3, 14, .inr (.inl (la (fun _ => 0)))), .inl (3, 14, .inr (.inl (la (fun _ => 0)))), .inl (3, 14, .inr (.inl (la (fun _ => 0)))), .inl (3, 14, .inr (.inl (la (fun _ => 0)))), .inl (3, 14, .inr (.inl (la (fun _ => 0)))), .inl (3, 14, .inr (.inl (la (fun _ => 0)))), .inl (3, 14, .inr (.inl (la (fun _ => 0)))), .inl (3, 14, .inr (.inl (la (fun _ => 0)))), .inl (0, 13, .inl (ia (fun _ => 0))), .inl (3, 62, .inr (.inl (la (fun _ => 0))))] _ _ _
  refine j_putF (ci := 3) (k := 2) d_Num_init_29 f_Num_20 ⟨_, rfl, rfl, rfl⟩ rfl (fun q h => by cases h; rfl) rfl (Nat.le_of_ble_eq_true rfl) x_okA ?_
  show SJ _ _ _ _ _ [] [.inr (3, [.ref 1, .ref 27, .ref 28, .null]), .inl (8, 25, .inr (.inr (.inr (.inr (fun i => some (1 + 1 + i)))))), .inl (3, 14, .inr (.inl (la (fun _ => 0)))), .inl (3, 14, .inr (.inl (la (fun _ => 0)))), .inl (3, 14, .inr (.inl (la (fun _ => 0)))), .inl (3, 14, .inr (.inl (la (fun _ => 0)))), .inl (3, 14, .inr (.inl (la (fun _ => 0)))), .inl (3, 14, .inr (.inl (la (fun _ => 0)))), .inl (3, 14, .inr (.inl (la (fun _ => 0)))), .inl (3, 14, .inr (.inl (la (fun _ => 0)))), .inl (3, 14, .inr (.inl (la (fun _ => 0)))), .inl (3, 14, .inr (.inl (la (fun _ => 0)))), .inl (3, 14, .inr (.inl (la (fun _ => 0)))), .inl (3, 14, .inr (.inl (la (fun _ => 0)))), .inl (3, 14, .inr (.inl (la (fun _ => 0)))), .inl (3, 14, .inr (.inl (la (fun _ => 0)))), .inl (3, 14, .inr (.inl (la (fun _ => 0)))), .inl (3, 14, .inr (.inl (la (fun _ => 0)))), .inl (3, 14, .inr (.inl (la (fun _ => 0)))), .inl (3, 14, .inr (.inl (la (fun _ => 0)))), .inl (3, 14, .inr (.inl (la (fun _ => 0)))), .inl (3, 14, .inr (.inl (la (fun _ => 0)))), .inl (3, 14, .inr (.inl (la (fun _ => 0)))), .inl (3, 14, .inr (.inl (la (fun _ => 0)))), .inl (3, 14, .inr (.inl (la (fun _ => 0)))), .inl (3, 14, .inr (.inl (la (fun _ => 0)))), .inl (3, 14, .inr (.inl (la (fun _ => 0)))), .inl (0, 13, .inl (ia (fun _ => 0))), .inl (3, 62, .inr (.inl (la (fun _ => 0))))] _ _ _
  refine j_aload_n d_Num_init_32 rfl ?_
  refine z_bipush d_Num_init_33 (by decide) ?_
  refine j_newa (t := 3) (N := 62) (a0 := (62, .inr (.inl (la (fun _ => 0))))) d_Num_init_35 rfl (fun _ => rfl) (fun _ _ h => h) wd_a_long (fun _ _ => rfl) (by decide) (by decide) (by decide) (Nat.le_of_ble_eq_true rfl) (Nat.le_of_ble_eq_true rfl) ?_
  show SJ _ _ _ _ _ [.ref 29, .ref 0] [.inr (3, [.ref 1, .ref 27, .ref 28, .null]), .inl (8, 25, .inr (.inr (.inr (.inr (fun i => some (1 + 1 + i)))))), .inl (3, 14, .inr (.inl (la (fun _ => 0)))), .inl (3, 14, .inr (.inl (la (fun _ => 0)))), .inl (3, 14, .inr (.inl (la (fun _ => 0)))), .inl (3, 14, .inr (.inl (la (fun _ => 0)))), .inl (3, 14, .inr (.inl (la (fun _ => 0)))), .inl (3, 14, .inr (.inl (la (fun _ => 0)))), .inl (3, 14, .inr (.inl (la (fun _ => 0)))), .inl (3, 14, .inr (.inl (la (fun _ => 0)))), .inl (3, 14, .inr (.inl (la (fun _ => 0)))), .inl (3, 14, .inr (.inl (la (fun _ => 0)))), .inl (3, 14, .inr (.inl (la (fun _ => 0)))), .inl (3, 14, .inr (.inl (la (fun _ => 0)))), .inl (3, 14, .inr (.inl (la (fun _ => 0)))), .inl (3, 14, .inr (.inl (la (fun _ => 0)))), .inl (3, 14, .inr (.inl (la (fun _ => 0)))), .inl (3, 14, .inr (.inl (la (fun _ => 0)))), .inl (3, 14, .inr (.inl (la (fun _ => 0)))), .inl (3, 14, .inr (.inl (la (fun _ => 0)))), .inl (3, 14, .inr (.inl (la (fun _ => 0)))), .inl (3, 14, .inr (.inl (la (fun _ => 0)))), .inl (3, 14, .inr (.inl (la (fun _ => 0)))), .inl (3, 14, .inr (.inl (la (fun _ => 0)))), .inl (3, 14, .inr (.inl (la (fun _ => 0)))), .inl (3, 14, .inr (.inl (la (fun _ => 0)))), .inl (3, 14, .inr (.inl (la (fun _ => 0)))), .inl (0, 13, .inl (ia (fun _ => 0))), .inl (3, 62, .inr (.inl (la (fun _ => 0)))), .inl (3, 62, .inr (.inl (la (fun _ => 0))))] _ _ _
  refine j_putF (ci := 3) (k := 3) d_Num_init_37 f_Num_24 ⟨_, rfl, rfl, rfl⟩ rfl (fun q h => by cases h; rfl) rfl (Nat.le_of_ble_eq_true rfl) x_okA ?_
  show SJ _ _ _ _ _ [] [.inr (3, [.ref 1, .ref 27, .ref 28, .ref 29]), .inl (8, 25, .inr (.inr (.inr (.inr (fun i => some (1 + 1 + i)))))), .inl (3, 14, .inr (.inl (la (fun _ => 0)))), .inl (3, 14, .inr (.inl (la (fun _ => 0)))), .inl (3, 14, .inr (.inl (la (fun _ => 0)))), .inl (3, 14, .inr (.inl (la (fun _ => 0)))), .inl (3, 14, .inr (.inl (la (fun _ => 0)))), .inl (3, 14, .inr (.inl (la (fun _ => 0)))), .inl (3, 14, .inr (.inl (la (fun _ => 0)))), .inl (3, 14, .inr (.inl (la (fun _ => 0)))), .inl (3, 14, .inr (.inl (la (fun _ => 0)))), .inl (3, 14, .inr (.inl (la (fun _ => 0)))), .inl (3, 14, .inr (.inl (la (fun _ => 0)))), .inl (3, 14, .inr (.inl (la (fun _ => 0)))), .inl (3, 14, .inr (.inl (la (fun _ => 0)))), .inl (3, 14, .inr (.inl (la (fun _ => 0)))), .inl (3, 14, .inr (.inl (la (fun _ => 0)))), .inl (3, 14, .inr (.inl (la (fun _ => 0)))), .inl (3, 14, .inr (.inl (la (fun _ => 0)))), .inl (3, 14, .inr (.inl (la (fun _ => 0)))), .inl (3, 14, .inr (.inl (la (fun _ => 0)))), .inl (3, 14, .inr (.inl (la (fun _ => 0)))), .inl (3, 14, .inr (.inl (la (fun _ => 0)))), .inl (3, 14, .inr (.inl (la (fun _ => 0)))), .inl (3, 14, .inr (.inl (la (fun _ => 0)))), .inl (3, 14, .inr (.inl (la (fun _ => 0)))), .inl (3, 14, .inr (.inl (la (fun _ => 0)))), .inl (0, 13, .inl (ia (fun _ => 0))), .inl (3, 62, .inr (.inl (la (fun _ => 0)))), .inl (3, 62, .inr (.inl (la (fun _ => 0))))] _ _ _
  exact j_return rfl d_Num_init_40 hQ
theorem n_Ask_init {d : Nat} {Q : List xM → Option Value → Prop} (hQ : Q [.inr (0, [.ref 1, .ref 3, .int (ii 0)]), .inr (8, [.int (ii 0), .ref 2]), .inl (0, 51, .inl (ia (fun _ => 0))), .inl (0, 52, .inl (ia (fun _ => 0)))] none) : CT true m_Ask_init (d + 2) [.ref 0] [.inr (0, [.null, .null, .int (ii 0)])] 3 105 Q := by
  refine CT.of (by decide) (Nat.le_of_ble_eq_true rfl) ?_
  show SJ _ _ _ _ [some (.ref 0)] [] _ _ _ _
  refine j_aload_n d_Ask_init_0 rfl ?_
  refine j_objI d_Ask_init_1 oi_Ask_3 (Nat.le_of_ble_eq_true rfl) ?_
  refine j_aload_n d_Ask_init_4 rfl ?_
  refine nw_Sum d_Ask_init_5 cl_Ask_9 (Nat.le_of_ble_eq_true rfl) (Nat.le_of_ble_eq_true rfl) ?_
  show SJ _ _ _ _ _ [.ref 1, .ref 0] [.inr (0, [.null, .null, .int (ii 0)]), .inr (8, [.int (ii 0), .null])] _ _ _
  refine j_dup d_Ask_init_8 rfl ?_
  refine j_callN (y2 := m_Sum_init) (i := 1) (as := []) (mc2 := 1) (ms2 := 51) d_Ask_init_9 cn_Ask_11 rfl rfl (Nat.le_of_ble_eq_true rfl) (Nat.le_of_ble_eq_true rfl) (Nat.le_of_ble_eq_true rfl) ?_
  refine CT.subG (sub := [.inr (8, [.int (ii 0), .null])]) (args := [.ref 0]) (sgl [1] 1) (sgl_inj2 (by decide) (by decide)) (fun k => sgl_up rfl rfl k) (Emb.hs ⟨rfl, trivial⟩) rfl ?_
  refine n_Sum_init ⟨(Nat.le_of_ble_eq_true rfl), ?_⟩
  show SJ _ _ _ _ _ [.ref 1, .ref 0] [.inr (0, [.null, .null, .int (ii 0)]), .inr (8, [.int (ii 0), .ref 2]), .inl (0, 51, .inl (ia (fun _ => 0)))] _ _ _
  refine j_putF (ci := 0) (k := 0) d_Ask_init_12 f_Ask_12 ⟨_, rfl, rfl, rfl⟩ rfl (fun q h => by cases h; rfl) rfl (Nat.le_of_ble_eq_true rfl) x_okR ?_
  show SJ _ _ _ _ _ [] [.inr (0, [.ref 1, .null, .int (ii 0)]), .inr (8, [.int (ii 0), .ref 2]), .inl (0, 51, .inl (ia (fun _ => 0)))] _ _ _
  refine j_aload_n d_Ask_init_15 rfl ?_
  refine z_bipush d_Ask_init_16 (by decide) ?_
  refine j_newa (t := 0) (N := 52) (a0 := (52, .inl (ia (fun _ => 0)))) d_Ask_init_18 rfl (fun _ => rfl) (fun _ _ h => h) wd_a_int (fun _ _ => rfl) (by decide) (by decide) (by decide) (Nat.le_of_ble_eq_true rfl) (Nat.le_of_ble_eq_true rfl) ?_
  show SJ _ _ _ _ _ [.ref 3, .ref 0] [.inr (0, [.ref 1, .null, .int (ii 0)]), .inr (8, [.int (ii 0), .ref 2]), .inl (0, 51, .inl (ia (fun _ => 0))), .inl (0, 52, .inl (ia (fun _ => 0)))] _ _ _
  refine j_putF (ci := 0) (k := 1) d_Ask_init_20 f_Ask_18 ⟨_, rfl, rfl, rfl⟩ rfl (fun q h => by cases h; rfl) rfl (Nat.le_of_ble_eq_true rfl) x_okA ?_
  show SJ _ _ _ _ _ [] [.inr (0, [.ref 1, .ref 3, .int (ii 0)]), .inr (8, [.int (ii 0), .ref 2]), .inl (0, 51, .inl (ia (fun _ => 0))), .inl (0, 52, .inl (ia (fun _ => 0)))] _ _ _
  refine j_aload_n d_Ask_init_23 rfl ?_
  refine z_iconst d_Ask_init_24 ?_
  refine j_putf (ci := 0) (k := 2) d_Ask_init_25 f_Ask_22 ⟨_, rfl, rfl, rfl⟩ rfl (Nat.le_of_ble_eq_true rfl) x_okI ?_
  show SJ _ _ _ _ _ [] [.inr (0, [.ref 1, .ref 3, .int (ii 0)]), .inr (8, [.int (ii 0), .ref 2]), .inl (0, 51, .inl (ia (fun _ => 0))), .inl (0, 52, .inl (ia (fun _ => 0)))] _ _ _
  exact j_return rfl d_Ask_init_28 hQ
theorem n_Sta_init {d : Nat} {Q : List xM → Option Value → Prop} (hQ : Q [.inr (7, [.ref 1, .ref 6, .ref 7, .int (ii 0), .int (ii (-1))]), .inr (5, [.ref 2, .int (ii 0), .ref 3, .ref 4, .ref 5, .int (ii 0), .int (ii 0)]), .inl (0, 20, .inl (ia (fun _ => 0))), .inl (0, 20, .inl (ia (fun _ => 0))), .inl (0, 20, .inl (ia (fun _ => 0))), .inl (0, 20, .inl (ia (fun _ => 0))), .inl (0, 3, .inl (va_cpy (x_st 2) (ia (fun _ => 0)) 0 0 3)), .inl (5, 6, .inr (.inr (.inr (.inr (fun _ => none)))))] none) : CT true m_Sta_init (d + 2) [.ref 0] [.inr (7, [.null, .null, .null, .int (ii 0), .int (ii 0)])] 7 96 Q := by
  refine CT.of (by decide) (Nat.le_of_ble_eq_true rfl) ?_
  show SJ _ _ _ _ [some (.ref 0)] [] _ _ _ _
  refine j_aload_n d_Sta_init_0 rfl ?_
  refine j_objI d_Sta_init_1 oi_Sta_3 (Nat.le_of_ble_eq_true rfl) ?_
  refine j_aload_n d_Sta_init_4 rfl ?_
  refine nw_Row d_Sta_init_5 cl_Sta_9 (Nat.le_of_ble_eq_true rfl) (Nat.le_of_ble_eq_true rfl) ?_
  show SJ _ _ _ _ _ [.ref 1, .ref 0] [.inr (7, [.null, .null, .null, .int (ii 0), .int (ii 0)]), .inr (5, [.null, .int (ii 0), .null, .null, .null, .int (ii 0), .int (ii 0)])] _ _ _
  refine j_dup d_Sta_init_8 rfl ?_
  refine j_callN (y2 := m_Row_init) (i := 1) (as := []) (mc2 := 4) (ms2 := 80) d_Sta_init_9 cn_Sta_11 rfl rfl (Nat.le_of_ble_eq_true rfl) (Nat.le_of_ble_eq_true rfl) (Nat.le_of_ble_eq_true rfl) ?_
  refine CT.subG (sub := [.inr (5, [.null, .int (ii 0), .null, .null, .null, .int (ii 0), .int (ii 0)])]) (args := [.ref 0]) (sgl [1] 1) (sgl_inj2 (by decide) (by decide)) (fun k => sgl_up rfl rfl k) (Emb.hs ⟨rfl, trivial⟩) rfl ?_
  refine n_Row_init ⟨(Nat.le_of_ble_eq_true rfl), ?_⟩
  show SJ _ _ _ _ _ [.ref 1, .ref 0] [.inr (7, [.null, .null, .null, .int (ii 0), .int (ii 0)]), .inr (5, [.ref 2, .int (ii 0), .ref 3, .ref 4, .ref 5, .int (ii 0), .int (ii 0)]), .inl (0, 20, .inl (ia (fun _ => 0))), .inl (0, 20, .inl (ia (fun _ => 0))), .inl (0, 20, .inl (ia (fun _ => 0))), .inl (0, 20, .inl (ia (fun _ => 0)))] _ _ _
  refine j_putF (ci := 7) (k := 0) d_Sta_init_12 f_Sta_12 ⟨_, rfl, rfl, rfl⟩ rfl (fun q h => by cases h; rfl) rfl (Nat.le_of_ble_eq_true rfl) x_okR ?_
  show SJ _ _ _ _ _ [] [.inr (7, [.ref 1, .null, .null, .int (ii 0), .int (ii 0)]), .inr (5, [.ref 2, .int (ii 0), .ref 3, .ref 4, .ref 5, .int (ii 0), .int (ii 0)]), .inl (0, 20, .inl (ia (fun _ => 0))), .inl (0, 20, .inl (ia (fun _ => 0))), .inl (0, 20, .inl (ia (fun _ => 0))), .inl (0, 20, .inl (ia (fun _ => 0)))] _ _ _
  refine j_aload_n d_Sta_init_15 rfl ?_
  refine z_iconst d_Sta_init_16 ?_
  refine j_newa (t := 0) (N := 3) (a0 := (3, .inl (ia (fun _ => 0)))) d_Sta_init_17 rfl (fun _ => rfl) (fun _ _ h => h) wd_a_int (fun _ _ => rfl) (by decide) (by decide) (by decide) (Nat.le_of_ble_eq_true rfl) (Nat.le_of_ble_eq_true rfl) ?_
  show SJ _ _ _ _ _ [.ref 6, .ref 0] [.inr (7, [.ref 1, .null, .null, .int (ii 0), .int (ii 0)]), .inr (5, [.ref 2, .int (ii 0), .ref 3, .ref 4, .ref 5, .int (ii 0), .int (ii 0)]), .inl (0, 20, .inl (ia (fun _ => 0))), .inl (0, 20, .inl (ia (fun _ => 0))), .inl (0, 20, .inl (ia (fun _ => 0))), .inl (0, 20, .inl (ia (fun _ => 0))), .inl (0, 3, .inl (ia (fun _ => 0)))] _ _ _
  refine j_putF (ci := 7) (k := 1) d_Sta_init_19 f_Sta_18 ⟨_, rfl, rfl, rfl⟩ rfl (fun q h => by cases h; rfl) rfl (Nat.le_of_ble_eq_true rfl) x_okA ?_
  show SJ _ _ _ _ _ [] [.inr (7, [.ref 1, .ref 6, .null, .int (ii 0), .int (ii 0)]), .inr (5, [.ref 2, .int (ii 0), .ref 3, .ref 4, .ref 5, .int (ii 0), .int (ii 0)]), .inl (0, 20, .inl (ia (fun _ => 0))), .inl (0, 20, .inl (ia (fun _ => 0))), .inl (0, 20, .inl (ia (fun _ => 0))), .inl (0, 20, .inl (ia (fun _ => 0))), .inl (0, 3, .inl (ia (fun _ => 0)))] _ _ _
  refine j_aload_n d_Sta_init_22 rfl ?_
  refine z_bipush d_Sta_init_23 (by decide) ?_
  refine j_newq (t := 5) (N := 6) d_Sta_init_25 (Or.inl ⟨rfl, rfl⟩) cl_Sta_22 (by decide) (by decide) (by decide) (Nat.le_of_ble_eq_true rfl) (Nat.le_of_ble_eq_true rfl) ?_
  show SJ _ _ _ _ _ [.ref 7, .ref 0] [.inr (7, [.ref 1, .ref 6, .null, .int (ii 0), .int (ii 0)]), .inr (5, [.ref 2, .int (ii 0), .ref 3, .ref 4, .ref 5, .int (ii 0), .int (ii 0)]), .inl (0, 20, .inl (ia (fun _ => 0))), .inl (0, 20, .inl (ia (fun _ => 0))), .inl (0, 20, .inl (ia (fun _ => 0))), .inl (0, 20, .inl (ia (fun _ => 0))), .inl (0, 3, .inl (ia (fun _ => 0))), .inl (5, 6, .inr (.inr (.inr (.inr (fun _ => none)))))] _ _ _
  refine j_putF (ci := 7) (k := 2) d_Sta_init_28 f_Sta_24 ⟨_, rfl, rfl, rfl⟩ rfl (fun q h => by cases h; rfl) rfl (Nat.le_of_ble_eq_true rfl) x_okA ?_
  show SJ _ _ _ _ _ [] [.inr (7, [.ref 1, .ref 6, .ref 7, .int (ii 0), .int (ii 0)]), .inr (5, [.ref 2, .int (ii 0), .ref 3, .ref 4, .ref 5, .int (ii 0), .int (ii 0)]), .inl (0, 20, .inl (ia (fun _ => 0))), .inl (0, 20, .inl (ia (fun _ => 0))), .inl (0, 20, .inl (ia (fun _ => 0))), .inl (0, 20, .inl (ia (fun _ => 0))), .inl (0, 3, .inl (ia (fun _ => 0))), .inl (5, 6, .inr (.inr (.inr (.inr (fun _ => none)))))] _ _ _
  refine j_aload_n d_Sta_init_31 rfl ?_
  refine z_iconst d_Sta_init_32 ?_
  refine j_putf (ci := 7) (k := 3) d_Sta_init_33 f_Sta_28 ⟨_, rfl, rfl, rfl⟩ rfl (Nat.le_of_ble_eq_true rfl) x_okI ?_
  show SJ _ _ _ _ _ [] [.inr (7, [.ref 1, .ref 6, .ref 7, .int (ii 0), .int (ii 0)]), .inr (5, [.ref 2, .int (ii 0), .ref 3, .ref 4, .ref 5, .int (ii 0), .int (ii 0)]), .inl (0, 20, .inl (ia (fun _ => 0))), .inl (0, 20, .inl (ia (fun _ => 0))), .inl (0, 20, .inl (ia (fun _ => 0))), .inl (0, 20, .inl (ia (fun _ => 0))), .inl (0, 3, .inl (ia (fun _ => 0))), .inl (5, 6, .inr (.inr (.inr (.inr (fun _ => none)))))] _ _ _
  refine j_aload_n d_Sta_init_36 rfl ?_
  refine z_iconst d_Sta_init_37 ?_
  refine j_putf (ci := 7) (k := 4) d_Sta_init_38 f_Sta_32 ⟨_, rfl, rfl, rfl⟩ rfl (Nat.le_of_ble_eq_true rfl) x_okI ?_
  show SJ _ _ _ _ _ [] [.inr (7, [.ref 1, .ref 6, .ref 7, .int (ii 0), .int (ii (-1))]), .inr (5, [.ref 2, .int (ii 0), .ref 3, .ref 4, .ref 5, .int (ii 0), .int (ii 0)]), .inl (0, 20, .inl (ia (fun _ => 0))), .inl (0, 20, .inl (ia (fun _ => 0))), .inl (0, 20, .inl (ia (fun _ => 0))), .inl (0, 20, .inl (ia (fun _ => 0))), .inl (0, 3, .inl (ia (fun _ => 0))), .inl (5, 6, .inr (.inr (.inr (.inr (fun _ => none)))))] _ _ _
  refine j_getsN rfl d_Sta_init_41 ?_
  refine z_iconst d_Sta_init_44 ?_
  refine j_aload_n d_Sta_init_45 rfl ?_
  refine j_getf d_Sta_init_46 f_Sta_18 rfl rfl ?_
  refine z_iconst d_Sta_init_49 ?_
  refine z_iconst d_Sta_init_50 ?_
  refine j_copyT (j0 := 2) d_Sta_init_51 ac_Sta_38 (by decide) rfl (by decide) (by decide) (by decide) (by decide) (by decide) (Nat.le_of_ble_eq_true rfl) ?_
  show SJ _ _ _ _ _ [] [.inr (7, [.ref 1, .ref 6, .ref 7, .int (ii 0), .int (ii (-1))]), .inr (5, [.ref 2, .int (ii 0), .ref 3, .ref 4, .ref 5, .int (ii 0), .int (ii 0)]), .inl (0, 20, .inl (ia (fun _ => 0))), .inl (0, 20, .inl (ia (fun _ => 0))), .inl (0, 20, .inl (ia (fun _ => 0))), .inl (0, 20, .inl (ia (fun _ => 0))), .inl (0, 3, .inl (va_cpy (x_st 2) (ia (fun _ => 0)) 0 0 3)), .inl (5, 6, .inr (.inr (.inr (.inr (fun _ => none)))))] _ _ _
  exact j_return rfl d_Sta_init_54 hQ
theorem n_Gra_init {pw : Int → Int} {d : Nat} {Q : List xM → Option Value → Prop} (hQ : Q [.inr (2, [.ref 7, .int (ii (-1)), .ref 1, .int (ii 0), .int (ii 0), .int (ii 302), .int (ii 0), .int (ii 0)]), .inr (9, [.ref 2, .int (ii 0), .ref 3, .ref 4, .ref 5, .int (ii 0), .ref 6]), .inl (0, 400, .inl (ia (fun _ => 0))), .inl (0, 401, .inl (ia (fun _ => 0))), .inl (0, 401, .inl (ia (fun _ => 0))), .inl (0, 401, .inl (ia (fun _ => 0))), .inl (4, 137, .inl (ia pw)), .inr (10, [.ref 8, .ref 9, .ref 10, .ref 11, .ref 12, .ref 13, .ref 14, .int (ii 0), .int (ii 0)]), .inl (0, 12, .inl (ia (fun _ => 0))), .inl (0, 12, .inl (ia (fun _ => 0))), .inl (0, 12, .inl (ia (fun _ => 0))), .inl (0, 12, .inl (ia (fun _ => 0))), .inl (0, 12, .inl (ia (fun _ => 0))), .inl (0, 436, .inl (ia (fun _ => 0))), .inl (0, 436, .inl (ia (fun _ => 0)))] none) : CT true m_Gra_init (d + 2) [.ref 0, .ref 1] [.inr (2, [.null, .int (ii 0), .null, .int (ii 0), .int (ii 0), .int (ii 0), .int (ii 0), .int (ii 0)]), .inr (9, [.ref 2, .int (ii 0), .ref 3, .ref 4, .ref 5, .int (ii 0), .ref 6]), .inl (0, 400, .inl (ia (fun _ => 0))), .inl (0, 401, .inl (ia (fun _ => 0))), .inl (0, 401, .inl (ia (fun _ => 0))), .inl (0, 401, .inl (ia (fun _ => 0))), .inl (4, 137, .inl (ia pw))] 8 941 Q := by
  refine CT.of (by decide) (Nat.le_of_ble_eq_true rfl) ?_
  show SJ _ _ _ _ [some (.ref 0), some (.ref 1)] [] _ _ _ _
  refine j_aload_n d_Gra_init_0 rfl ?_
  refine j_objI d_Gra_init_1 oi_Gra_3 (Nat.le_of_ble_eq_true rfl) ?_
  refine j_aload_n d_Gra_init_4 rfl ?_
  refine nw_Tex d_Gra_init_5 cl_Gra_9 (Nat.le_of_ble_eq_true rfl) (Nat.le_of_ble_eq_true rfl) ?_
  show SJ _ _ _ _ _ [.ref 7, .ref 0] [.inr (2, [.null, .int (ii 0), .null, .int (ii 0), .int (ii 0), .int (ii 0), .int (ii 0), .int (ii 0)]), .inr (9, [.ref 2, .int (ii 0), .ref 3, .ref 4, .ref 5, .int (ii 0), .ref 6]), .inl (0, 400, .inl (ia (fun _ => 0))), .inl (0, 401, .inl (ia (fun _ => 0))), .inl (0, 401, .inl (ia (fun _ => 0))), .inl (0, 401, .inl (ia (fun _ => 0))), .inl (4, 137, .inl (ia pw)), .inr (10, [.null, .null, .null, .null, .null, .null, .null, .int (ii 0), .int (ii 0)])] _ _ _
  refine j_dup d_Gra_init_8 rfl ?_
  refine j_callI (y2 := m_Tex_init) (i := 7) (as := []) (mc2 := 7) (ms2 := 932) d_Gra_init_9 c_Gra_11 rfl rfl (Nat.le_of_ble_eq_true rfl) (Nat.le_of_ble_eq_true rfl) (Nat.le_of_ble_eq_true rfl) ?_
  refine CT.subG (sub := [.inr (10, [.null, .null, .null, .null, .null, .null, .null, .int (ii 0), .int (ii 0)])]) (args := [.ref 0]) (sgl [7] 7) (sgl_inj2 (by decide) (by decide)) (fun k => sgl_up rfl rfl k) (Emb.hs ⟨rfl, trivial⟩) rfl ?_
  refine n_Tex_init ⟨(Nat.le_of_ble_eq_true rfl), ?_⟩
  show SJ _ _ _ _ _ [.ref 7, .ref 0] [.inr (2, [.null, .int (ii 0), .null, .int (ii 0), .int (ii 0), .int (ii 0), .int (ii 0), .int (ii 0)]), .inr (9, [.ref 2, .int (ii 0), .ref 3, .ref 4, .ref 5, .int (ii 0), .ref 6]), .inl (0, 400, .inl (ia (fun _ => 0))), .inl (0, 401, .inl (ia (fun _ => 0))), .inl (0, 401, .inl (ia (fun _ => 0))), .inl (0, 401, .inl (ia (fun _ => 0))), .inl (4, 137, .inl (ia pw)), .inr (10, [.ref 8, .ref 9, .ref 10, .ref 11, .ref 12, .ref 13, .ref 14, .int (ii 0), .int (ii 0)]), .inl (0, 12, .inl (ia (fun _ => 0))), .inl (0, 12, .inl (ia (fun _ => 0))), .inl (0, 12, .inl (ia (fun _ => 0))), .inl (0, 12, .inl (ia (fun _ => 0))), .inl (0, 12, .inl (ia (fun _ => 0))), .inl (0, 436, .inl (ia (fun _ => 0))), .inl (0, 436, .inl (ia (fun _ => 0)))] _ _ _
  refine j_putF (ci := 2) (k := 0) d_Gra_init_12 f_Gra_12 ⟨_, rfl, rfl, rfl⟩ rfl (fun q h => by cases h; rfl) rfl (Nat.le_of_ble_eq_true rfl) x_okR ?_
  show SJ _ _ _ _ _ [] [.inr (2, [.ref 7, .int (ii 0), .null, .int (ii 0), .int (ii 0), .int (ii 0), .int (ii 0), .int (ii 0)]), .inr (9, [.ref 2, .int (ii 0), .ref 3, .ref 4, .ref 5, .int (ii 0), .ref 6]), .inl (0, 400, .inl (ia (fun _ => 0))), .inl (0, 401, .inl (ia (fun _ => 0))), .inl (0, 401, .inl (ia (fun _ => 0))), .inl (0, 401, .inl (ia (fun _ => 0))), .inl (4, 137, .inl (ia pw)), .inr (10, [.ref 8, .ref 9, .ref 10, .ref 11, .ref 12, .ref 13, .ref 14, .int (ii 0), .int (ii 0)]), .inl (0, 12, .inl (ia (fun _ => 0))), .inl (0, 12, .inl (ia (fun _ => 0))), .inl (0, 12, .inl (ia (fun _ => 0))), .inl (0, 12, .inl (ia (fun _ => 0))), .inl (0, 12, .inl (ia (fun _ => 0))), .inl (0, 436, .inl (ia (fun _ => 0))), .inl (0, 436, .inl (ia (fun _ => 0)))] _ _ _
  refine j_aload_n d_Gra_init_15 rfl ?_
  refine z_iconst d_Gra_init_16 ?_
  refine j_putf (ci := 2) (k := 1) d_Gra_init_17 f_Gra_18 ⟨_, rfl, rfl, rfl⟩ rfl (Nat.le_of_ble_eq_true rfl) x_okI ?_
  show SJ _ _ _ _ _ [] [.inr (2, [.ref 7, .int (ii (-1)), .null, .int (ii 0), .int (ii 0), .int (ii 0), .int (ii 0), .int (ii 0)]), .inr (9, [.ref 2, .int (ii 0), .ref 3, .ref 4, .ref 5, .int (ii 0), .ref 6]), .inl (0, 400, .inl (ia (fun _ => 0))), .inl (0, 401, .inl (ia (fun _ => 0))), .inl (0, 401, .inl (ia (fun _ => 0))), .inl (0, 401, .inl (ia (fun _ => 0))), .inl (4, 137, .inl (ia pw)), .inr (10, [.ref 8, .ref 9, .ref 10, .ref 11, .ref 12, .ref 13, .ref 14, .int (ii 0), .int (ii 0)]), .inl (0, 12, .inl (ia (fun _ => 0))), .inl (0, 12, .inl (ia (fun _ => 0))), .inl (0, 12, .inl (ia (fun _ => 0))), .inl (0, 12, .inl (ia (fun _ => 0))), .inl (0, 12, .inl (ia (fun _ => 0))), .inl (0, 436, .inl (ia (fun _ => 0))), .inl (0, 436, .inl (ia (fun _ => 0)))] _ _ _
  refine j_aload_n d_Gra_init_20 rfl ?_
  refine z_iconst d_Gra_init_21 ?_
  refine j_putf (ci := 2) (k := 3) d_Gra_init_22 f_Gra_22 ⟨_, rfl, rfl, rfl⟩ rfl (Nat.le_of_ble_eq_true rfl) x_ok0 ?_
  show SJ _ _ _ _ _ [] [.inr (2, [.ref 7, .int (ii (-1)), .null, .int (ii 0), .int (ii 0), .int (ii 0), .int (ii 0), .int (ii 0)]), .inr (9, [.ref 2, .int (ii 0), .ref 3, .ref 4, .ref 5, .int (ii 0), .ref 6]), .inl (0, 400, .inl (ia (fun _ => 0))), .inl (0, 401, .inl (ia (fun _ => 0))), .inl (0, 401, .inl (ia (fun _ => 0))), .inl (0, 401, .inl (ia (fun _ => 0))), .inl (4, 137, .inl (ia pw)), .inr (10, [.ref 8, .ref 9, .ref 10, .ref 11, .ref 12, .ref 13, .ref 14, .int (ii 0), .int (ii 0)]), .inl (0, 12, .inl (ia (fun _ => 0))), .inl (0, 12, .inl (ia (fun _ => 0))), .inl (0, 12, .inl (ia (fun _ => 0))), .inl (0, 12, .inl (ia (fun _ => 0))), .inl (0, 12, .inl (ia (fun _ => 0))), .inl (0, 436, .inl (ia (fun _ => 0))), .inl (0, 436, .inl (ia (fun _ => 0)))] _ _ _
  refine j_aload_n d_Gra_init_25 rfl ?_
  refine z_iconst d_Gra_init_26 ?_
  refine j_putf (ci := 2) (k := 4) d_Gra_init_27 f_Gra_26 ⟨_, rfl, rfl, rfl⟩ rfl (Nat.le_of_ble_eq_true rfl) x_okI ?_
  show SJ _ _ _ _ _ [] [.inr (2, [.ref 7, .int (ii (-1)), .null, .int (ii 0), .int (ii 0), .int (ii 0), .int (ii 0), .int (ii 0)]), .inr (9, [.ref 2, .int (ii 0), .ref 3, .ref 4, .ref 5, .int (ii 0), .ref 6]), .inl (0, 400, .inl (ia (fun _ => 0))), .inl (0, 401, .inl (ia (fun _ => 0))), .inl (0, 401, .inl (ia (fun _ => 0))), .inl (0, 401, .inl (ia (fun _ => 0))), .inl (4, 137, .inl (ia pw)), .inr (10, [.ref 8, .ref 9, .ref 10, .ref 11, .ref 12, .ref 13, .ref 14, .int (ii 0), .int (ii 0)]), .inl (0, 12, .inl (ia (fun _ => 0))), .inl (0, 12, .inl (ia (fun _ => 0))), .inl (0, 12, .inl (ia (fun _ => 0))), .inl (0, 12, .inl (ia (fun _ => 0))), .inl (0, 12, .inl (ia (fun _ => 0))), .inl (0, 436, .inl (ia (fun _ => 0))), .inl (0, 436, .inl (ia (fun _ => 0)))] _ _ _
  refine j_aload_n d_Gra_init_30 rfl ?_
  refine z_sipush d_Gra_init_31 (by decide) ?_
  refine j_putf (ci := 2) (k := 5) d_Gra_init_34 f_Gra_29 ⟨_, rfl, rfl, rfl⟩ rfl (Nat.le_of_ble_eq_true rfl) x_okI ?_
  show SJ _ _ _ _ _ [] [.inr (2, [.ref 7, .int (ii (-1)), .null, .int (ii 0), .int (ii 0), .int (ii 302), .int (ii 0), .int (ii 0)]), .inr (9, [.ref 2, .int (ii 0), .ref 3, .ref 4, .ref 5, .int (ii 0), .ref 6]), .inl (0, 400, .inl (ia (fun _ => 0))), .inl (0, 401, .inl (ia (fun _ => 0))), .inl (0, 401, .inl (ia (fun _ => 0))), .inl (0, 401, .inl (ia (fun _ => 0))), .inl (4, 137, .inl (ia pw)), .inr (10, [.ref 8, .ref 9, .ref 10, .ref 11, .ref 12, .ref 13, .ref 14, .int (ii 0), .int (ii 0)]), .inl (0, 12, .inl (ia (fun _ => 0))), .inl (0, 12, .inl (ia (fun _ => 0))), .inl (0, 12, .inl (ia (fun _ => 0))), .inl (0, 12, .inl (ia (fun _ => 0))), .inl (0, 12, .inl (ia (fun _ => 0))), .inl (0, 436, .inl (ia (fun _ => 0))), .inl (0, 436, .inl (ia (fun _ => 0)))] _ _ _
  refine j_aload_n d_Gra_init_37 rfl ?_
  refine z_iconst d_Gra_init_38 ?_
  refine j_putf (ci := 2) (k := 6) d_Gra_init_39 f_Gra_32 ⟨_, rfl, rfl, rfl⟩ rfl (Nat.le_of_ble_eq_true rfl) x_okI ?_
  show SJ _ _ _ _ _ [] [.inr (2, [.ref 7, .int (ii (-1)), .null, .int (ii 0), .int (ii 0), .int (ii 302), .int (ii 0), .int (ii 0)]), .inr (9, [.ref 2, .int (ii 0), .ref 3, .ref 4, .ref 5, .int (ii 0), .ref 6]), .inl (0, 400, .inl (ia (fun _ => 0))), .inl (0, 401, .inl (ia (fun _ => 0))), .inl (0, 401, .inl (ia (fun _ => 0))), .inl (0, 401, .inl (ia (fun _ => 0))), .inl (4, 137, .inl (ia pw)), .inr (10, [.ref 8, .ref 9, .ref 10, .ref 11, .ref 12, .ref 13, .ref 14, .int (ii 0), .int (ii 0)]), .inl (0, 12, .inl (ia (fun _ => 0))), .inl (0, 12, .inl (ia (fun _ => 0))), .inl (0, 12, .inl (ia (fun _ => 0))), .inl (0, 12, .inl (ia (fun _ => 0))), .inl (0, 12, .inl (ia (fun _ => 0))), .inl (0, 436, .inl (ia (fun _ => 0))), .inl (0, 436, .inl (ia (fun _ => 0)))] _ _ _
  refine j_aload_n d_Gra_init_42 rfl ?_
  refine z_iconst d_Gra_init_43 ?_
  refine j_putf (ci := 2) (k := 7) d_Gra_init_44 f_Gra_35 ⟨_, rfl, rfl, rfl⟩ rfl (Nat.le_of_ble_eq_true rfl) x_okI ?_
  show SJ _ _ _ _ _ [] [.inr (2, [.ref 7, .int (ii (-1)), .null, .int (ii 0), .int (ii 0), .int (ii 302), .int (ii 0), .int (ii 0)]), .inr (9, [.ref 2, .int (ii 0), .ref 3, .ref 4, .ref 5, .int (ii 0), .ref 6]), .inl (0, 400, .inl (ia (fun _ => 0))), .inl (0, 401, .inl (ia (fun _ => 0))), .inl (0, 401, .inl (ia (fun _ => 0))), .inl (0, 401, .inl (ia (fun _ => 0))), .inl (4, 137, .inl (ia pw)), .inr (10, [.ref 8, .ref 9, .ref 10, .ref 11, .ref 12, .ref 13, .ref 14, .int (ii 0), .int (ii 0)]), .inl (0, 12, .inl (ia (fun _ => 0))), .inl (0, 12, .inl (ia (fun _ => 0))), .inl (0, 12, .inl (ia (fun _ => 0))), .inl (0, 12, .inl (ia (fun _ => 0))), .inl (0, 12, .inl (ia (fun _ => 0))), .inl (0, 436, .inl (ia (fun _ => 0))), .inl (0, 436, .inl (ia (fun _ => 0)))] _ _ _
  refine j_aload_n d_Gra_init_47 rfl ?_
  refine j_aload_n d_Gra_init_48 rfl ?_
  refine j_putF (ci := 2) (k := 2) d_Gra_init_49 f_Gra_38 ⟨_, rfl, rfl, rfl⟩ rfl (fun q h => by cases h; rfl) rfl (Nat.le_of_ble_eq_true rfl) x_okR ?_
  show SJ _ _ _ _ _ [] [.inr (2, [.ref 7, .int (ii (-1)), .ref 1, .int (ii 0), .int (ii 0), .int (ii 302), .int (ii 0), .int (ii 0)]), .inr (9, [.ref 2, .int (ii 0), .ref 3, .ref 4, .ref 5, .int (ii 0), .ref 6]), .inl (0, 400, .inl (ia (fun _ => 0))), .inl (0, 401, .inl (ia (fun _ => 0))), .inl (0, 401, .inl (ia (fun _ => 0))), .inl (0, 401, .inl (ia (fun _ => 0))), .inl (4, 137, .inl (ia pw)), .inr (10, [.ref 8, .ref 9, .ref 10, .ref 11, .ref 12, .ref 13, .ref 14, .int (ii 0), .int (ii 0)]), .inl (0, 12, .inl (ia (fun _ => 0))), .inl (0, 12, .inl (ia (fun _ => 0))), .inl (0, 12, .inl (ia (fun _ => 0))), .inl (0, 12, .inl (ia (fun _ => 0))), .inl (0, 12, .inl (ia (fun _ => 0))), .inl (0, 436, .inl (ia (fun _ => 0))), .inl (0, 436, .inl (ia (fun _ => 0)))] _ _ _
  exact j_return rfl d_Gra_init_52 hQ
theorem n_Dee_init {d : Nat} {Q : List xM → Option Value → Prop} (hQ : Q [.inr (1, [.int (ii 0), .ref 9, .ref 1, .ref 13, .ref 14, .ref 15]), .inr (7, [.ref 2, .ref 7, .ref 8, .int (ii 0), .int (ii (-1))]), .inr (5, [.ref 3, .int (ii 0), .ref 4, .ref 5, .ref 6, .int (ii 0), .int (ii 0)]), .inl (0, 20, .inl (ia (fun _ => 0))), .inl (0, 20, .inl (ia (fun _ => 0))), .inl (0, 20, .inl (ia (fun _ => 0))), .inl (0, 20, .inl (ia (fun _ => 0))), .inl (0, 3, .inl (va_cpy (x_st 2) (ia (fun _ => 0)) 0 0 3)), .inl (5, 6, .inr (.inr (.inr (.inr (fun _ => none))))), .inr (0, [.ref 10, .ref 12, .int (ii 0)]), .inr (8, [.int (ii 0), .ref 11]), .inl (0, 51, .inl (ia (fun _ => 0))), .inl (0, 52, .inl (ia (fun _ => 0))), .inl (0, 16, .inl (ia (fun _ => 0))), .inl (0, 16, .inl (ia (fun _ => 0))), .inl (0, 16, .inl (ia (fun _ => 0)))] none) : CT true m_Dee_init (d + 1) [.ref 0, .ref 1, .ref 9] [.inr (1, [.int (ii 0), .null, .null, .null, .null, .null]), .inr (7, [.ref 2, .ref 7, .ref 8, .int (ii 0), .int (ii (-1))]), .inr (5, [.ref 3, .int (ii 0), .ref 4, .ref 5, .ref 6, .int (ii 0), .int (ii 0)]), .inl (0, 20, .inl (ia (fun _ => 0))), .inl (0, 20, .inl (ia (fun _ => 0))), .inl (0, 20, .inl (ia (fun _ => 0))), .inl (0, 20, .inl (ia (fun _ => 0))), .inl (0, 3, .inl (va_cpy (x_st 2) (ia (fun _ => 0)) 0 0 3)), .inl (5, 6, .inr (.inr (.inr (.inr (fun _ => none))))), .inr (0, [.ref 10, .ref 12, .int (ii 0)]), .inr (8, [.int (ii 0), .ref 11]), .inl (0, 51, .inl (ia (fun _ => 0))), .inl (0, 52, .inl (ia (fun _ => 0)))] 3 48 Q := by
  refine CT.of (by decide) (Nat.le_of_ble_eq_true rfl) ?_
  show SJ _ _ _ _ [some (.ref 0), some (.ref 1), some (.ref 9)] [] _ _ _ _
  refine j_aload_n d_Dee_init_0 rfl ?_
  refine j_objI d_Dee_init_1 oi_Dee_3 (Nat.le_of_ble_eq_true rfl) ?_
  refine j_aload_n d_Dee_init_4 rfl ?_
  refine z_iconst d_Dee_init_5 ?_
  refine j_putf (ci := 1) (k := 0) d_Dee_init_6 f_Dee_9 ⟨_, rfl, rfl, rfl⟩ rfl (Nat.le_of_ble_eq_true rfl) x_okI ?_
  show SJ _ _ _ _ _ [] [.inr (1, [.int (ii 0), .null, .null, .null, .null, .null]), .inr (7, [.ref 2, .ref 7, .ref 8, .int (ii 0), .int (ii (-1))]), .inr (5, [.ref 3, .int (ii 0), .ref 4, .ref 5, .ref 6, .int (ii 0), .int (ii 0)]), .inl (0, 20, .inl (ia (fun _ => 0))), .inl (0, 20, .inl (ia (fun _ => 0))), .inl (0, 20, .inl (ia (fun _ => 0))), .inl (0, 20, .inl (ia (fun _ => 0))), .inl (0, 3, .inl (va_cpy (x_st 2) (ia (fun _ => 0)) 0 0 3)), .inl (5, 6, .inr (.inr (.inr (.inr (fun _ => none))))), .inr (0, [.ref 10, .ref 12, .int (ii 0)]), .inr (8, [.int (ii 0), .ref 11]), .inl (0, 51, .inl (ia (fun _ => 0))), .inl (0, 52, .inl (ia (fun _ => 0)))] _ _ _
  refine j_aload_n d_Dee_init_9 rfl ?_
  refine z_bipush d_Dee_init_10 (by decide) ?_
  refine j_newa (t := 0) (N := 16) (a0 := (16, .inl (ia (fun _ => 0)))) d_Dee_init_12 rfl (fun _ => rfl) (fun _ _ h => h) wd_a_int (fun _ _ => rfl) (by decide) (by decide) (by decide) (Nat.le_of_ble_eq_true rfl) (Nat.le_of_ble_eq_true rfl) ?_
  show SJ _ _ _ _ _ [.ref 13, .ref 0] [.inr (1, [.int (ii 0), .null, .null, .null, .null, .null]), .inr (7, [.ref 2, .ref 7, .ref 8, .int (ii 0), .int (ii (-1))]), .inr (5, [.ref 3, .int (ii 0), .ref 4, .ref 5, .ref 6, .int (ii 0), .int (ii 0)]), .inl (0, 20, .inl (ia (fun _ => 0))), .inl (0, 20, .inl (ia (fun _ => 0))), .inl (0, 20, .inl (ia (fun _ => 0))), .inl (0, 20, .inl (ia (fun _ => 0))), .inl (0, 3, .inl (va_cpy (x_st 2) (ia (fun _ => 0)) 0 0 3)), .inl (5, 6, .inr (.inr (.inr (.inr (fun _ => none))))), .inr (0, [.ref 10, .ref 12, .int (ii 0)]), .inr (8, [.int (ii 0), .ref 11]), .inl (0, 51, .inl (ia (fun _ => 0))), .inl (0, 52, .inl (ia (fun _ => 0))), .inl (0, 16, .inl (ia (fun _ => 0)))] _ _ _
  refine j_putF (ci := 1) (k := 3) d_Dee_init_14 f_Dee_15 ⟨_, rfl, rfl, rfl⟩ rfl (fun q h => by cases h; rfl) rfl (Nat.le_of_ble_eq_true rfl) x_okA ?_
  show SJ _ _ _ _ _ [] [.inr (1, [.int (ii 0), .null, .null, .ref 13, .null, .null]), .inr (7, [.ref 2, .ref 7, .ref 8, .int (ii 0), .int (ii (-1))]), .inr (5, [.ref 3, .int (ii 0), .ref 4, .ref 5, .ref 6, .int (ii 0), .int (ii 0)]), .inl (0, 20, .inl (ia (fun _ => 0))), .inl (0, 20, .inl (ia (fun _ => 0))), .inl (0, 20, .inl (ia (fun _ => 0))), .inl (0, 20, .inl (ia (fun _ => 0))), .inl (0, 3, .inl (va_cpy (x_st 2) (ia (fun _ => 0)) 0 0 3)), .inl (5, 6, .inr (.inr (.inr (.inr (fun _ => none))))), .inr (0, [.ref 10, .ref 12, .int (ii 0)]), .inr (8, [.int (ii 0), .ref 11]), .inl (0, 51, .inl (ia (fun _ => 0))), .inl (0, 52, .inl (ia (fun _ => 0))), .inl (0, 16, .inl (ia (fun _ => 0)))] _ _ _
  refine j_aload_n d_Dee_init_17 rfl ?_
  refine z_bipush d_Dee_init_18 (by decide) ?_
  refine j_newa (t := 0) (N := 16) (a0 := (16, .inl (ia (fun _ => 0)))) d_Dee_init_20 rfl (fun _ => rfl) (fun _ _ h => h) wd_a_int (fun _ _ => rfl) (by decide) (by decide) (by decide) (Nat.le_of_ble_eq_true rfl) (Nat.le_of_ble_eq_true rfl) ?_
  show SJ _ _ _ _ _ [.ref 14, .ref 0] [.inr (1, [.int (ii 0), .null, .null, .ref 13, .null, .null]), .inr (7, [.ref 2, .ref 7, .ref 8, .int (ii 0), .int (ii (-1))]), .inr (5, [.ref 3, .int (ii 0), .ref 4, .ref 5, .ref 6, .int (ii 0), .int (ii 0)]), .inl (0, 20, .inl (ia (fun _ => 0))), .inl (0, 20, .inl (ia (fun _ => 0))), .inl (0, 20, .inl (ia (fun _ => 0))), .inl (0, 20, .inl (ia (fun _ => 0))), .inl (0, 3, .inl (va_cpy (x_st 2) (ia (fun _ => 0)) 0 0 3)), .inl (5, 6, .inr (.inr (.inr (.inr (fun _ => none))))), .inr (0, [.ref 10, .ref 12, .int (ii 0)]), .inr (8, [.int (ii 0), .ref 11]), .inl (0, 51, .inl (ia (fun _ => 0))), .inl (0, 52, .inl (ia (fun _ => 0))), .inl (0, 16, .inl (ia (fun _ => 0))), .inl (0, 16, .inl (ia (fun _ => 0)))] _ _ _
  refine j_putF (ci := 1) (k := 4) d_Dee_init_22 f_Dee_19 ⟨_, rfl, rfl, rfl⟩ rfl (fun q h => by cases h; rfl) rfl (Nat.le_of_ble_eq_true rfl) x_okA ?_
  show SJ _ _ _ _ _ [] [.inr (1, [.int (ii 0), .null, .null, .ref 13, .ref 14, .null]), .inr (7, [.ref 2, .ref 7, .ref 8, .int (ii 0), .int (ii (-1))]), .inr (5, [.ref 3, .int (ii 0), .ref 4, .ref 5, .ref 6, .int (ii 0), .int (ii 0)]), .inl (0, 20, .inl (ia (fun _ => 0))), .inl (0, 20, .inl (ia (fun _ => 0))), .inl (0, 20, .inl (ia (fun _ => 0))), .inl (0, 20, .inl (ia (fun _ => 0))), .inl (0, 3, .inl (va_cpy (x_st 2) (ia (fun _ => 0)) 0 0 3)), .inl (5, 6, .inr (.inr (.inr (.inr (fun _ => none))))), .inr (0, [.ref 10, .ref 12, .int (ii 0)]), .inr (8, [.int (ii 0), .ref 11]), .inl (0, 51, .inl (ia (fun _ => 0))), .inl (0, 52, .inl (ia (fun _ => 0))), .inl (0, 16, .inl (ia (fun _ => 0))), .inl (0, 16, .inl (ia (fun _ => 0)))] _ _ _
  refine j_aload_n d_Dee_init_25 rfl ?_
  refine z_bipush d_Dee_init_26 (by decide) ?_
  refine j_newa (t := 0) (N := 16) (a0 := (16, .inl (ia (fun _ => 0)))) d_Dee_init_28 rfl (fun _ => rfl) (fun _ _ h => h) wd_a_int (fun _ _ => rfl) (by decide) (by decide) (by decide) (Nat.le_of_ble_eq_true rfl) (Nat.le_of_ble_eq_true rfl) ?_
  show SJ _ _ _ _ _ [.ref 15, .ref 0] [.inr (1, [.int (ii 0), .null, .null, .ref 13, .ref 14, .null]), .inr (7, [.ref 2, .ref 7, .ref 8, .int (ii 0), .int (ii (-1))]), .inr (5, [.ref 3, .int (ii 0), .ref 4, .ref 5, .ref 6, .int (ii 0), .int (ii 0)]), .inl (0, 20, .inl (ia (fun _ => 0))), .inl (0, 20, .inl (ia (fun _ => 0))), .inl (0, 20, .inl (ia (fun _ => 0))), .inl (0, 20, .inl (ia (fun _ => 0))), .inl (0, 3, .inl (va_cpy (x_st 2) (ia (fun _ => 0)) 0 0 3)), .inl (5, 6, .inr (.inr (.inr (.inr (fun _ => none))))), .inr (0, [.ref 10, .ref 12, .int (ii 0)]), .inr (8, [.int (ii 0), .ref 11]), .inl (0, 51, .inl (ia (fun _ => 0))), .inl (0, 52, .inl (ia (fun _ => 0))), .inl (0, 16, .inl (ia (fun _ => 0))), .inl (0, 16, .inl (ia (fun _ => 0))), .inl (0, 16, .inl (ia (fun _ => 0)))] _ _ _
  refine j_putF (ci := 1) (k := 5) d_Dee_init_30 f_Dee_22 ⟨_, rfl, rfl, rfl⟩ rfl (fun q h => by cases h; rfl) rfl (Nat.le_of_ble_eq_true rfl) x_okA ?_
  show SJ _ _ _ _ _ [] [.inr (1, [.int (ii 0), .null, .null, .ref 13, .ref 14, .ref 15]), .inr (7, [.ref 2, .ref 7, .ref 8, .int (ii 0), .int (ii (-1))]), .inr (5, [.ref 3, .int (ii 0), .ref 4, .ref 5, .ref 6, .int (ii 0), .int (ii 0)]), .inl (0, 20, .inl (ia (fun _ => 0))), .inl (0, 20, .inl (ia (fun _ => 0))), .inl (0, 20, .inl (ia (fun _ => 0))), .inl (0, 20, .inl (ia (fun _ => 0))), .inl (0, 3, .inl (va_cpy (x_st 2) (ia (fun _ => 0)) 0 0 3)), .inl (5, 6, .inr (.inr (.inr (.inr (fun _ => none))))), .inr (0, [.ref 10, .ref 12, .int (ii 0)]), .inr (8, [.int (ii 0), .ref 11]), .inl (0, 51, .inl (ia (fun _ => 0))), .inl (0, 52, .inl (ia (fun _ => 0))), .inl (0, 16, .inl (ia (fun _ => 0))), .inl (0, 16, .inl (ia (fun _ => 0))), .inl (0, 16, .inl (ia (fun _ => 0)))] _ _ _
  refine j_aload_n d_Dee_init_33 rfl ?_
  refine j_aload_n d_Dee_init_34 rfl ?_
  refine j_putF (ci := 1) (k := 2) d_Dee_init_35 f_Dee_25 ⟨_, rfl, rfl, rfl⟩ rfl (fun q h => by cases h; rfl) rfl (Nat.le_of_ble_eq_true rfl) x_okR ?_
  show SJ _ _ _ _ _ [] [.inr (1, [.int (ii 0), .null, .ref 1, .ref 13, .ref 14, .ref 15]), .inr (7, [.ref 2, .ref 7, .ref 8, .int (ii 0), .int (ii (-1))]), .inr (5, [.ref 3, .int (ii 0), .ref 4, .ref 5, .ref 6, .int (ii 0), .int (ii 0)]), .inl (0, 20, .inl (ia (fun _ => 0))), .inl (0, 20, .inl (ia (fun _ => 0))), .inl (0, 20, .inl (ia (fun _ => 0))), .inl (0, 20, .inl (ia (fun _ => 0))), .inl (0, 3, .inl (va_cpy (x_st 2) (ia (fun _ => 0)) 0 0 3)), .inl (5, 6, .inr (.inr (.inr (.inr (fun _ => none))))), .inr (0, [.ref 10, .ref 12, .int (ii 0)]), .inr (8, [.int (ii 0), .ref 11]), .inl (0, 51, .inl (ia (fun _ => 0))), .inl (0, 52, .inl (ia (fun _ => 0))), .inl (0, 16, .inl (ia (fun _ => 0))), .inl (0, 16, .inl (ia (fun _ => 0))), .inl (0, 16, .inl (ia (fun _ => 0)))] _ _ _
  refine j_aload_n d_Dee_init_38 rfl ?_
  refine j_aload_n d_Dee_init_39 rfl ?_
  refine j_putF (ci := 1) (k := 1) d_Dee_init_40 f_Dee_29 ⟨_, rfl, rfl, rfl⟩ rfl (fun q h => by cases h; rfl) rfl (Nat.le_of_ble_eq_true rfl) x_okR ?_
  show SJ _ _ _ _ _ [] [.inr (1, [.int (ii 0), .ref 9, .ref 1, .ref 13, .ref 14, .ref 15]), .inr (7, [.ref 2, .ref 7, .ref 8, .int (ii 0), .int (ii (-1))]), .inr (5, [.ref 3, .int (ii 0), .ref 4, .ref 5, .ref 6, .int (ii 0), .int (ii 0)]), .inl (0, 20, .inl (ia (fun _ => 0))), .inl (0, 20, .inl (ia (fun _ => 0))), .inl (0, 20, .inl (ia (fun _ => 0))), .inl (0, 20, .inl (ia (fun _ => 0))), .inl (0, 3, .inl (va_cpy (x_st 2) (ia (fun _ => 0)) 0 0 3)), .inl (5, 6, .inr (.inr (.inr (.inr (fun _ => none))))), .inr (0, [.ref 10, .ref 12, .int (ii 0)]), .inr (8, [.int (ii 0), .ref 11]), .inl (0, 51, .inl (ia (fun _ => 0))), .inl (0, 52, .inl (ia (fun _ => 0))), .inl (0, 16, .inl (ia (fun _ => 0))), .inl (0, 16, .inl (ia (fun _ => 0))), .inl (0, 16, .inl (ia (fun _ => 0)))] _ _ _
  exact j_return rfl d_Dee_init_43 hQ
set_option maxHeartbeats 16000000 in
theorem n_Pap_init {d : Nat} {Q : List xM → Option Value → Prop} (hQ : Q [.inr (4, [.int (ii 0), .int (ii 0), .int (ii 0), .int (ii (-1)), .int (ii 0), .int (ii 0), .int (ii 0), .int (ii 0), .int (ii 0), .int (ii 0), .ref 5, .ref 1, .ref 6, .ref 11, .ref 18, .ref 41, .ref 42]), .inr (0, [.ref 2, .ref 4, .int (ii 0)]), .inr (8, [.int (ii 0), .ref 3]), .inl (0, 51, .inl (ia (fun _ => 0))), .inl (0, 52, .inl (ia (fun _ => 0))), .inl (2, 20, .inl (ia (fun _ => 0))), .inr (5, [.ref 7, .int (ii 0), .ref 8, .ref 9, .ref 10, .int (ii 0), .int (ii 0)]), .inl (0, 20, .inl (ia (fun _ => 0))), .inl (0, 20, .inl (ia (fun _ => 0))), .inl (0, 20, .inl (ia (fun _ => 0))), .inl (0, 20, .inl (ia (fun _ => 0))), .inl (7, 6, .inr (.inr (.inr (.inr (fun i => some (11 + 1 + i)))))), .inl (0, 21, .inl (ia (fun _ => 0))), .inl (0, 21, .inl (ia (fun _ => 0))), .inl (0, 21, .inl (ia (fun _ => 0))), .inl (0, 21, .inl (ia (fun _ => 0))), .inl (0, 21, .inl (ia (fun _ => 0))), .inl (0, 21, .inl (ia (fun _ => 0))), .inl (7, 22, .inr (.inr (.inr (.inr (fun i => some (18 + 1 + i)))))), .inl (0, 22, .inl (ia (fun _ => 0))), .inl (0, 22, .inl (ia (fun _ => 0))), .inl (0, 22, .inl (ia (fun _ => 0))), .inl (0, 22, .inl (ia (fun _ => 0))), .inl (0, 22, .inl (ia (fun _ => 0))), .inl (0, 22, .inl (ia (fun _ => 0))), .inl (0, 22, .inl (ia (fun _ => 0))), .inl (0, 22, .inl (ia (fun _ => 0))), .inl (0, 22, .inl (ia (fun _ => 0))), .inl (0, 22, .inl (ia (fun _ => 0))), .inl (0, 22, .inl (ia (fun _ => 0))), .inl (0, 22, .inl (ia (fun _ => 0))), .inl (0, 22, .inl (ia (fun _ => 0))), .inl (0, 22, .inl (ia (fun _ => 0))), .inl (0, 22, .inl (ia (fun _ => 0))), .inl (0, 22, .inl (ia (fun _ => 0))), .inl (0, 22, .inl (ia (fun _ => 0))), .inl (0, 22, .inl (ia (fun _ => 0))), .inl (0, 22, .inl (ia (fun _ => 0))), .inl (0, 22, .inl (ia (fun _ => 0))), .inl (0, 22, .inl (ia (fun _ => 0))), .inl (0, 22, .inl (ia (fun _ => 0))), .inl (0, 20, .inl (ia (fun _ => 0))), .inl (0, 20, .inl (ia (fun _ => 0)))] none) : CT true m_Pap_init (d + 2) [.ref 0, .ref 1] [.inr (4, [.int (ii 0), .int (ii 0), .int (ii 0), .int (ii 0), .int (ii 0), .int (ii 0), .int (ii 0), .int (ii 0), .int (ii 0), .int (ii 0), .null, .null, .null, .null, .null, .null, .null]), .inr (0, [.ref 2, .ref 4, .int (ii 0)]), .inr (8, [.int (ii 0), .ref 3]), .inl (0, 51, .inl (ia (fun _ => 0))), .inl (0, 52, .inl (ia (fun _ => 0)))] 38 785 Q := by
  refine CT.of (by decide) (Nat.le_of_ble_eq_true rfl) ?_
  show SJ _ _ _ _ [some (.ref 0), some (.ref 1)] [] _ _ _ _
  refine j_aload_n d_Pap_init_0 rfl ?_
  refine j_objI d_Pap_init_1 oi_Pap_3 (Nat.le_of_ble_eq_true rfl) ?_
  refine j_aload_n d_Pap_init_4 rfl ?_
  refine z_iconst d_Pap_init_5 ?_
  refine j_putf (ci := 4) (k := 0) d_Pap_init_6 f_Pap_9 ⟨_, rfl, rfl, rfl⟩ rfl (Nat.le_of_ble_eq_true rfl) x_okI ?_
  show SJ _ _ _ _ _ [] [.inr (4, [.int (ii 0), .int (ii 0), .int (ii 0), .int (ii 0), .int (ii 0), .int (ii 0), .int (ii 0), .int (ii 0), .int (ii 0), .int (ii 0), .null, .null, .null, .null, .null, .null, .null]), .inr (0, [.ref 2, .ref 4, .int (ii 0)]), .inr (8, [.int (ii 0), .ref 3]), .inl (0, 51, .inl (ia (fun _ => 0))), .inl (0, 52, .inl (ia (fun _ => 0)))] _ _ _
  refine j_aload_n d_Pap_init_9 rfl ?_
  refine z_iconst d_Pap_init_10 ?_
  refine j_putf (ci := 4) (k := 1) d_Pap_init_11 f_Pap_15 ⟨_, rfl, rfl, rfl⟩ rfl (Nat.le_of_ble_eq_true rfl) x_okI ?_
  show SJ _ _ _ _ _ [] [.inr (4, [.int (ii 0), .int (ii 0), .int (ii 0), .int (ii 0), .int (ii 0), .int (ii 0), .int (ii 0), .int (ii 0), .int (ii 0), .int (ii 0), .null, .null, .null, .null, .null, .null, .null]), .inr (0, [.ref 2, .ref 4, .int (ii 0)]), .inr (8, [.int (ii 0), .ref 3]), .inl (0, 51, .inl (ia (fun _ => 0))), .inl (0, 52, .inl (ia (fun _ => 0)))] _ _ _
  refine j_aload_n d_Pap_init_14 rfl ?_
  refine z_iconst d_Pap_init_15 ?_
  refine j_putf (ci := 4) (k := 2) d_Pap_init_16 f_Pap_18 ⟨_, rfl, rfl, rfl⟩ rfl (Nat.le_of_ble_eq_true rfl) x_okI ?_
  show SJ _ _ _ _ _ [] [.inr (4, [.int (ii 0), .int (ii 0), .int (ii 0), .int (ii 0), .int (ii 0), .int (ii 0), .int (ii 0), .int (ii 0), .int (ii 0), .int (ii 0), .null, .null, .null, .null, .null, .null, .null]), .inr (0, [.ref 2, .ref 4, .int (ii 0)]), .inr (8, [.int (ii 0), .ref 3]), .inl (0, 51, .inl (ia (fun _ => 0))), .inl (0, 52, .inl (ia (fun _ => 0)))] _ _ _
  refine j_aload_n d_Pap_init_19 rfl ?_
  refine z_iconst d_Pap_init_20 ?_
  refine j_putf (ci := 4) (k := 3) d_Pap_init_21 f_Pap_21 ⟨_, rfl, rfl, rfl⟩ rfl (Nat.le_of_ble_eq_true rfl) x_okI ?_
  show SJ _ _ _ _ _ [] [.inr (4, [.int (ii 0), .int (ii 0), .int (ii 0), .int (ii (-1)), .int (ii 0), .int (ii 0), .int (ii 0), .int (ii 0), .int (ii 0), .int (ii 0), .null, .null, .null, .null, .null, .null, .null]), .inr (0, [.ref 2, .ref 4, .int (ii 0)]), .inr (8, [.int (ii 0), .ref 3]), .inl (0, 51, .inl (ia (fun _ => 0))), .inl (0, 52, .inl (ia (fun _ => 0)))] _ _ _
  refine j_aload_n d_Pap_init_24 rfl ?_
  refine z_iconst d_Pap_init_25 ?_
  refine j_putf (ci := 4) (k := 4) d_Pap_init_26 f_Pap_24 ⟨_, rfl, rfl, rfl⟩ rfl (Nat.le_of_ble_eq_true rfl) x_okI ?_
  show SJ _ _ _ _ _ [] [.inr (4, [.int (ii 0), .int (ii 0), .int (ii 0), .int (ii (-1)), .int (ii 0), .int (ii 0), .int (ii 0), .int (ii 0), .int (ii 0), .int (ii 0), .null, .null, .null, .null, .null, .null, .null]), .inr (0, [.ref 2, .ref 4, .int (ii 0)]), .inr (8, [.int (ii 0), .ref 3]), .inl (0, 51, .inl (ia (fun _ => 0))), .inl (0, 52, .inl (ia (fun _ => 0)))] _ _ _
  refine j_aload_n d_Pap_init_29 rfl ?_
  refine z_iconst d_Pap_init_30 ?_
  refine j_putf (ci := 4) (k := 5) d_Pap_init_31 f_Pap_27 ⟨_, rfl, rfl, rfl⟩ rfl (Nat.le_of_ble_eq_true rfl) x_okI ?_
  show SJ _ _ _ _ _ [] [.inr (4, [.int (ii 0), .int (ii 0), .int (ii 0), .int (ii (-1)), .int (ii 0), .int (ii 0), .int (ii 0), .int (ii 0), .int (ii 0), .int (ii 0), .null, .null, .null, .null, .null, .null, .null]), .inr (0, [.ref 2, .ref 4, .int (ii 0)]), .inr (8, [.int (ii 0), .ref 3]), .inl (0, 51, .inl (ia (fun _ => 0))), .inl (0, 52, .inl (ia (fun _ => 0)))] _ _ _
  refine j_aload_n d_Pap_init_34 rfl ?_
  refine z_iconst d_Pap_init_35 ?_
  refine j_putf (ci := 4) (k := 6) d_Pap_init_36 f_Pap_30 ⟨_, rfl, rfl, rfl⟩ rfl (Nat.le_of_ble_eq_true rfl) x_okI ?_
  show SJ _ _ _ _ _ [] [.inr (4, [.int (ii 0), .int (ii 0), .int (ii 0), .int (ii (-1)), .int (ii 0), .int (ii 0), .int (ii 0), .int (ii 0), .int (ii 0), .int (ii 0), .null, .null, .null, .null, .null, .null, .null]), .inr (0, [.ref 2, .ref 4, .int (ii 0)]), .inr (8, [.int (ii 0), .ref 3]), .inl (0, 51, .inl (ia (fun _ => 0))), .inl (0, 52, .inl (ia (fun _ => 0)))] _ _ _
  refine j_aload_n d_Pap_init_39 rfl ?_
  refine z_iconst d_Pap_init_40 ?_
  refine j_putf (ci := 4) (k := 7) d_Pap_init_41 f_Pap_33 ⟨_, rfl, rfl, rfl⟩ rfl (Nat.le_of_ble_eq_true rfl) x_okI ?_
  show SJ _ _ _ _ _ [] [.inr (4, [.int (ii 0), .int (ii 0), .int (ii 0), .int (ii (-1)), .int (ii 0), .int (ii 0), .int (ii 0), .int (ii 0), .int (ii 0), .int (ii 0), .null, .null, .null, .null, .null, .null, .null]), .inr (0, [.ref 2, .ref 4, .int (ii 0)]), .inr (8, [.int (ii 0), .ref 3]), .inl (0, 51, .inl (ia (fun _ => 0))), .inl (0, 52, .inl (ia (fun _ => 0)))] _ _ _
  refine j_aload_n d_Pap_init_44 rfl ?_
  refine z_iconst d_Pap_init_45 ?_
  refine j_putf (ci := 4) (k := 8) d_Pap_init_46 f_Pap_36 ⟨_, rfl, rfl, rfl⟩ rfl (Nat.le_of_ble_eq_true rfl) x_okI ?_
  show SJ _ _ _ _ _ [] [.inr (4, [.int (ii 0), .int (ii 0), .int (ii 0), .int (ii (-1)), .int (ii 0), .int (ii 0), .int (ii 0), .int (ii 0), .int (ii 0), .int (ii 0), .null, .null, .null, .null, .null, .null, .null]), .inr (0, [.ref 2, .ref 4, .int (ii 0)]), .inr (8, [.int (ii 0), .ref 3]), .inl (0, 51, .inl (ia (fun _ => 0))), .inl (0, 52, .inl (ia (fun _ => 0)))] _ _ _
  refine j_aload_n d_Pap_init_49 rfl ?_
  refine z_iconst d_Pap_init_50 ?_
  refine j_putf (ci := 4) (k := 9) d_Pap_init_51 f_Pap_39 ⟨_, rfl, rfl, rfl⟩ rfl (Nat.le_of_ble_eq_true rfl) x_okI ?_
  show SJ _ _ _ _ _ [] [.inr (4, [.int (ii 0), .int (ii 0), .int (ii 0), .int (ii (-1)), .int (ii 0), .int (ii 0), .int (ii 0), .int (ii 0), .int (ii 0), .int (ii 0), .null, .null, .null, .null, .null, .null, .null]), .inr (0, [.ref 2, .ref 4, .int (ii 0)]), .inr (8, [.int (ii 0), .ref 3]), .inl (0, 51, .inl (ia (fun _ => 0))), .inl (0, 52, .inl (ia (fun _ => 0)))] _ _ _
  refine j_aload_n d_Pap_init_54 rfl ?_
  refine z_bipush d_Pap_init_55 (by decide) ?_
  refine j_newa (t := 2) (N := 20) (a0 := (20, .inl (ia (fun _ => 0)))) d_Pap_init_57 rfl (fun _ => rfl) (fun _ _ h => h) wd_a_boolean (fun _ _ => rfl) (by decide) (by decide) (by decide) (Nat.le_of_ble_eq_true rfl) (Nat.le_of_ble_eq_true rfl) ?_
  show SJ _ _ _ _ _ [.ref 5, .ref 0] [.inr (4, [.int (ii 0), .int (ii 0), .int (ii 0), .int (ii (-1)), .int (ii 0), .int (ii 0), .int (ii 0), .int (ii 0), .int (ii 0), .int (ii 0), .null, .null, .null, .null, .null, .null, .null]), .inr (0, [.ref 2, .ref 4, .int (ii 0)]), .inr (8, [.int (ii 0), .ref 3]), .inl (0, 51, .inl (ia (fun _ => 0))), .inl (0, 52, .inl (ia (fun _ => 0))), .inl (2, 20, .inl (ia (fun _ => 0)))] _ _ _
  refine j_putF (ci := 4) (k := 10) d_Pap_init_59 f_Pap_42 ⟨_, rfl, rfl, rfl⟩ rfl (fun q h => by cases h; rfl) rfl (Nat.le_of_ble_eq_true rfl) x_okA ?_
  show SJ _ _ _ _ _ [] [.inr (4, [.int (ii 0), .int (ii 0), .int (ii 0), .int (ii (-1)), .int (ii 0), .int (ii 0), .int (ii 0), .int (ii 0), .int (ii 0), .int (ii 0), .ref 5, .null, .null, .null, .null, .null, .null]), .inr (0, [.ref 2, .ref 4, .int (ii 0)]), .inr (8, [.int (ii 0), .ref 3]), .inl (0, 51, .inl (ia (fun _ => 0))), .inl (0, 52, .inl (ia (fun _ => 0))), .inl (2, 20, .inl (ia (fun _ => 0)))] _ _ _
  refine j_aload_n d_Pap_init_62 rfl ?_
  refine nw_Row d_Pap_init_63 cl_Pap_46 (Nat.le_of_ble_eq_true rfl) (Nat.le_of_ble_eq_true rfl) ?_
  show SJ _ _ _ _ _ [.ref 6, .ref 0] [.inr (4, [.int (ii 0), .int (ii 0), .int (ii 0), .int (ii (-1)), .int (ii 0), .int (ii 0), .int (ii 0), .int (ii 0), .int (ii 0), .int (ii 0), .ref 5, .null, .null, .null, .null, .null, .null]), .inr (0, [.ref 2, .ref 4, .int (ii 0)]), .inr (8, [.int (ii 0), .ref 3]), .inl (0, 51, .inl (ia (fun _ => 0))), .inl (0, 52, .inl (ia (fun _ => 0))), .inl (2, 20, .inl (ia (fun _ => 0))), .inr (5, [.null, .int (ii 0), .null, .null, .null, .int (ii 0), .int (ii 0)])] _ _ _
  refine j_dup d_Pap_init_66 rfl ?_
  refine j_callN (y2 := m_Row_init) (i := 6) (as := []) (mc2 := 4) (ms2 := 80) d_Pap_init_67 cn_Pap_48 rfl rfl (Nat.le_of_ble_eq_true rfl) (Nat.le_of_ble_eq_true rfl) (Nat.le_of_ble_eq_true rfl) ?_
  refine CT.subG (sub := [.inr (5, [.null, .int (ii 0), .null, .null, .null, .int (ii 0), .int (ii 0)])]) (args := [.ref 0]) (sgl [6] 6) (sgl_inj2 (by decide) (by decide)) (fun k => sgl_up rfl rfl k) (Emb.hs ⟨rfl, trivial⟩) rfl ?_
  refine n_Row_init ⟨(Nat.le_of_ble_eq_true rfl), ?_⟩
  show SJ _ _ _ _ _ [.ref 6, .ref 0] [.inr (4, [.int (ii 0), .int (ii 0), .int (ii 0), .int (ii (-1)), .int (ii 0), .int (ii 0), .int (ii 0), .int (ii 0), .int (ii 0), .int (ii 0), .ref 5, .null, .null, .null, .null, .null, .null]), .inr (0, [.ref 2, .ref 4, .int (ii 0)]), .inr (8, [.int (ii 0), .ref 3]), .inl (0, 51, .inl (ia (fun _ => 0))), .inl (0, 52, .inl (ia (fun _ => 0))), .inl (2, 20, .inl (ia (fun _ => 0))), .inr (5, [.ref 7, .int (ii 0), .ref 8, .ref 9, .ref 10, .int (ii 0), .int (ii 0)]), .inl (0, 20, .inl (ia (fun _ => 0))), .inl (0, 20, .inl (ia (fun _ => 0))), .inl (0, 20, .inl (ia (fun _ => 0))), .inl (0, 20, .inl (ia (fun _ => 0)))] _ _ _
  refine j_putF (ci := 4) (k := 12) d_Pap_init_70 f_Pap_49 ⟨_, rfl, rfl, rfl⟩ rfl (fun q h => by cases h; rfl) rfl (Nat.le_of_ble_eq_true rfl) x_okR ?_
  show SJ _ _ _ _ _ [] [.inr (4, [.int (ii 0), .int (ii 0), .int (ii 0), .int (ii (-1)), .int (ii 0), .int (ii 0), .int (ii 0), .int (ii 0), .int (ii 0), .int (ii 0), .ref 5, .null, .ref 6, .null, .null, .null, .null]), .inr (0, [.ref 2, .ref 4, .int (ii 0)]), .inr (8, [.int (ii 0), .ref 3]), .inl (0, 51, .inl (ia (fun _ => 0))), .inl (0, 52, .inl (ia (fun _ => 0))), .inl (2, 20, .inl (ia (fun _ => 0))), .inr (5, [.ref 7, .int (ii 0), .ref 8, .ref 9, .ref 10, .int (ii 0), .int (ii 0)]), .inl (0, 20, .inl (ia (fun _ => 0))), .inl (0, 20, .inl (ia (fun _ => 0))), .inl (0, 20, .inl (ia (fun _ => 0))), .inl (0, 20, .inl (ia (fun _ => 0)))] _ _ _
  refine j_aload_n d_Pap_init_73 rfl ?_
  refine z_bipush d_Pap_init_74 (by decide) ?_
  refine z_bipush d_Pap_init_76 (by decide) ?_
  refine j_multi (B := 11) (t0 := 0) (t := 7) (N := 6) (M := 21) (ty := .int) (ad0 := "[[I") (a0 := (21, .inl (ia (fun _ => 0)))) (dv := .int 0) rfl d_Pap_init_78 (Or.inl ⟨rfl, rfl, rfl⟩) (by decide) cl_Pap_53 wd_a_int rfl (fun _ _ => rfl) (by decide) (by decide) (by decide) (by decide) (Nat.le_of_ble_eq_true rfl) (Nat.le_of_ble_eq_true rfl) (Nat.le_of_ble_eq_true rfl) (Nat.le_of_ble_eq_true rfl) ?_
  show SJ _ _ _ _ _ [.ref 11, .ref 0] [.inr (4, [.int (ii 0), .int (ii 0), .int (ii 0), .int (ii (-1)), .int (ii 0), .int (ii 0), .int (ii 0), .int (ii 0), .int (ii 0), .int (ii 0), .ref 5, .null, .ref 6, .null, .null, .null, .null]), .inr (0, [.ref 2, .ref 4, .int (ii 0)]), .inr (8, [.int (ii 0), .ref 3]), .inl (0, 51, .inl (ia (fun _ => 0))), .inl (0, 52, .inl (ia (fun _ => 0))), .inl (2, 20, .inl (ia (fun _ => 0))), .inr (5, [.ref 7, .int (ii 0), .ref 8, .ref 9, .ref 10, .int (ii 0), .int (ii 0)]), .inl (0, 20, .inl (ia (fun _ => 0))), .inl (0, 20, .inl (ia (fun _ => 0))), .inl (0, 20, .inl (ia (fun _ => 0))), .inl (0, 20, .inl (ia (fun _ => 0))), .inl (7, 6, .inr (.inr (.inr (.inr (fun i => some (11 + 1 + i)))))), .inl (0, 21, .inl (ia (fun _ => 0))), .inl (0, 21, .inl (ia (fun _ => 0))), .inl (0, 21, .inl (ia (fun _ => 0))), .inl (0, 21, .inl (ia (fun _ => 0))), .inl (0, 21, .inl (ia (fun _ => 0))), .inl (0, 21, .inl (ia (fun _ => 0)))] _ _ _
  refine j_putF (ci := 4) (k := 13) d_Pap_init_82 f_Pap_55 ⟨_, rfl, rfl, rfl⟩ rfl (fun q h => by cases h; rfl) rfl (Nat.le_of_ble_eq_true rfl) x_okA ?_
  show SJ _ _ _ _ _ [] [.inr (4, [.int (ii 0), .int (ii 0), .int (ii 0), .int (ii (-1)), .int (ii 0), .int (ii 0), .int (ii 0), .int (ii 0), .int (ii 0), .int (ii 0), .ref 5, .null, .ref 6, .ref 11, .null, .null, .null]), .inr (0, [.ref 2, .ref 4, .int (ii 0)]), .inr (8, [.int (ii 0), .ref 3]), .inl (0, 51, .inl (ia (fun _ => 0))), .inl (0, 52, .inl (ia (fun _ => 0))), .inl (2, 20, .inl (ia (fun _ => 0))), .inr (5, [.ref 7, .int (ii 0), .ref 8, .ref 9, .ref 10, .int (ii 0), .int (ii 0)]), .inl (0, 20, .inl (ia (fun _ => 0))), .inl (0, 20, .inl (ia (fun _ => 0))), .inl (0, 20, .inl (ia (fun _ => 0))), .inl (0, 20, .inl (ia (fun _ => 0))), .inl (7, 6, .inr (.inr (.inr (.inr (fun i => some (11 + 1 + i)))))), .inl (0, 21, .inl (ia (fun _ => 0))), .inl (0, 21, .inl (ia (fun _ => 0))), .inl (0, 21, .inl (ia (fun _ => 0))), .inl (0, 21, .inl (ia (fun _ => 0))), .inl (0, 21, .inl (ia (fun _ => 0))), .inl (0, 21, .inl (ia (fun _ => 0)))] _ _ _
  refine j_aload_n d_Pap_init_85 rfl ?_
  refine z_bipush d_Pap_init_86 (by decide) ?_
  refine z_bipush d_Pap_init_88 (by decide) ?_
  refine j_multi (B := 18) (t0 := 0) (t := 7) (N := 22) (M := 22) (ty := .int) (ad0 := "[[I") (a0 := (22, .inl (ia (fun _ => 0)))) (dv := .int 0) rfl d_Pap_init_90 (Or.inl ⟨rfl, rfl, rfl⟩) (by decide) cl_Pap_53 wd_a_int rfl (fun _ _ => rfl) (by decide) (by decide) (by decide) (by decide) (Nat.le_of_ble_eq_true rfl) (Nat.le_of_ble_eq_true rfl) (Nat.le_of_ble_eq_true rfl) (Nat.le_of_ble_eq_true rfl) ?_
  refine j_putF (ci := 4) (k := 14) d_Pap_init_94 f_Pap_58 ⟨_, rfl, rfl, rfl⟩ rfl (fun q h => by cases h; rfl) rfl (Nat.le_of_ble_eq_true rfl) x_okA ?_
  refine j_aload_n d_Pap_init_97 rfl ?_
  refine z_bipush d_Pap_init_98 (by decide) ?_
  refine j_newa (t := 0) (N := 20) (a0 := (20, .inl (ia (fun _ => 0)))) d_Pap_init_100 rfl (fun _ => rfl) (fun _ _ h => h) wd_a_int (fun _ _ => rfl) (by decide) (by decide) (by decide) (Nat.le_of_ble_eq_true rfl) (Nat.le_of_ble_eq_true rfl) ?_
  refine j_putF (ci := 4) (k := 15) d_Pap_init_102 f_Pap_61 ⟨_, rfl, rfl, rfl⟩ rfl (fun q h => by cases h; rfl) rfl (Nat.le_of_ble_eq_true rfl) x_okA ?_
  refine j_aload_n d_Pap_init_105 rfl ?_
  refine z_bipush d_Pap_init_106 (by decide) ?_
  refine j_newa (t := 0) (N := 20) (a0 := (20, .inl (ia (fun _ => 0)))) d_Pap_init_108 rfl (fun _ => rfl) (fun _ _ h => h) wd_a_int (fun _ _ => rfl) (by decide) (by decide) (by decide) (Nat.le_of_ble_eq_true rfl) (Nat.le_of_ble_eq_true rfl) ?_
  refine j_putF (ci := 4) (k := 16) d_Pap_init_110 f_Pap_65 ⟨_, rfl, rfl, rfl⟩ rfl (fun q h => by cases h; rfl) rfl (Nat.le_of_ble_eq_true rfl) x_okA ?_
  refine j_aload_n d_Pap_init_113 rfl ?_
  refine j_aload_n d_Pap_init_114 rfl ?_
  refine j_putF (ci := 4) (k := 11) d_Pap_init_115 f_Pap_68 ⟨_, rfl, rfl, rfl⟩ rfl (fun q h => by cases h; rfl) rfl (Nat.le_of_ble_eq_true rfl) x_okR ?_
  exact j_return rfl d_Pap_init_118 hQ
set_option maxHeartbeats 16000000 in
theorem n_Run_init {d : Nat} {Q : List xM → Option Value → Prop} (hQ : Q [.inr (6, [.int (ii 0), .ref 2, .ref 1, .ref 17, .ref 28, .ref 25, .ref 27, .int (ii (-1))]), .inr (1, [.int (ii 0), .ref 10, .ref 2, .ref 14, .ref 15, .ref 16]), .inr (7, [.ref 3, .ref 8, .ref 9, .int (ii 0), .int (ii (-1))]), .inr (5, [.ref 4, .int (ii 0), .ref 5, .ref 6, .ref 7, .int (ii 0), .int (ii 0)]), .inl (0, 20, .inl (ia (fun _ => 0))), .inl (0, 20, .inl (ia (fun _ => 0))), .inl (0, 20, .inl (ia (fun _ => 0))), .inl (0, 20, .inl (ia (fun _ => 0))), .inl (0, 3, .inl (va_cpy (x_st 2) (ia (fun _ => 0)) 0 0 3)), .inl (5, 6, .inr (.inr (.inr (.inr (fun _ => none))))), .inr (0, [.ref 11, .ref 13, .int (ii 0)]), .inr (8, [.int (ii 0), .ref 12]), .inl (0, 51, .inl (ia (fun _ => 0))), .inl (0, 52, .inl (ia (fun _ => 0))), .inl (0, 16, .inl (ia (fun _ => 0))), .inl (0, 16, .inl (ia (fun _ => 0))), .inl (0, 16, .inl (ia (fun _ => 0))), .inr (7, [.ref 18, .ref 23, .ref 24, .int (ii 0), .int (ii (-1))]), .inr (5, [.ref 19, .int (ii 0), .ref 20, .ref 21, .ref 22, .int (ii 0), .int (ii 0)]), .inl (0, 20, .inl (ia (fun _ => 0))), .inl (0, 20, .inl (ia (fun _ => 0))), .inl (0, 20, .inl (ia (fun _ => 0))), .inl (0, 20, .inl (ia (fun _ => 0))), .inl (0, 3, .inl (va_cpy (x_st 2) (ia (fun _ => 0)) 0 0 3)), .inl (5, 6, .inr (.inr (.inr (.inr (fun _ => none))))), .inr (8, [.int (ii 0), .ref 26]), .inl (0, 51, .inl (ia (fun _ => 0))), .inl (0, 52, .inl (ia (fun _ => 0))), .inr (1, [.int (ii 0), .ref 10, .ref 17, .ref 29, .ref 30, .ref 31]), .inl (0, 16, .inl (ia (fun _ => 0))), .inl (0, 16, .inl (ia (fun _ => 0))), .inl (0, 16, .inl (ia (fun _ => 0)))] none) : CT true m_Run_init (d + 3) [.ref 0, .ref 2, .ref 1] [.inr (6, [.int (ii 0), .null, .null, .null, .null, .null, .null, .int (ii 0)]), .inr (1, [.int (ii 0), .ref 10, .ref 2, .ref 14, .ref 15, .ref 16]), .inr (7, [.ref 3, .ref 8, .ref 9, .int (ii 0), .int (ii (-1))]), .inr (5, [.ref 4, .int (ii 0), .ref 5, .ref 6, .ref 7, .int (ii 0), .int (ii 0)]), .inl (0, 20, .inl (ia (fun _ => 0))), .inl (0, 20, .inl (ia (fun _ => 0))), .inl (0, 20, .inl (ia (fun _ => 0))), .inl (0, 20, .inl (ia (fun _ => 0))), .inl (0, 3, .inl (va_cpy (x_st 2) (ia (fun _ => 0)) 0 0 3)), .inl (5, 6, .inr (.inr (.inr (.inr (fun _ => none))))), .inr (0, [.ref 11, .ref 13, .int (ii 0)]), .inr (8, [.int (ii 0), .ref 12]), .inl (0, 51, .inl (ia (fun _ => 0))), .inl (0, 52, .inl (ia (fun _ => 0))), .inl (0, 16, .inl (ia (fun _ => 0))), .inl (0, 16, .inl (ia (fun _ => 0))), .inl (0, 16, .inl (ia (fun _ => 0)))] 15 260 Q := by
  refine CT.of (by decide) (Nat.le_of_ble_eq_true rfl) ?_
  show SJ _ _ _ _ [some (.ref 0), some (.ref 2), some (.ref 1)] [] _ _ _ _
  refine j_aload_n d_Run_init_0 rfl ?_
  refine j_objI d_Run_init_1 oi_Run_3 (Nat.le_of_ble_eq_true rfl) ?_
  refine j_aload_n d_Run_init_4 rfl ?_
  refine z_iconst d_Run_init_5 ?_
  refine j_putf (ci := 6) (k := 0) d_Run_init_6 f_Run_9 ⟨_, rfl, rfl, rfl⟩ rfl (Nat.le_of_ble_eq_true rfl) x_okI ?_
  show SJ _ _ _ _ _ [] [.inr (6, [.int (ii 0), .null, .null, .null, .null, .null, .null, .int (ii 0)]), .inr (1, [.int (ii 0), .ref 10, .ref 2, .ref 14, .ref 15, .ref 16]), .inr (7, [.ref 3, .ref 8, .ref 9, .int (ii 0), .int (ii (-1))]), .inr (5, [.ref 4, .int (ii 0), .ref 5, .ref 6, .ref 7, .int (ii 0), .int (ii 0)]), .inl (0, 20, .inl (ia (fun _ => 0))), .inl (0, 20, .inl (ia (fun _ => 0))), .inl (0, 20, .inl (ia (fun _ => 0))), .inl (0, 20, .inl (ia (fun _ => 0))), .inl (0, 3, .inl (va_cpy (x_st 2) (ia (fun _ => 0)) 0 0 3)), .inl (5, 6, .inr (.inr (.inr (.inr (fun _ => none))))), .inr (0, [.ref 11, .ref 13, .int (ii 0)]), .inr (8, [.int (ii 0), .ref 12]), .inl (0, 51, .inl (ia (fun _ => 0))), .inl (0, 52, .inl (ia (fun _ => 0))), .inl (0, 16, .inl (ia (fun _ => 0))), .inl (0, 16, .inl (ia (fun _ => 0))), .inl (0, 16, .inl (ia (fun _ => 0)))] _ _ _
  refine j_aload_n d_Run_init_9 rfl ?_
  refine nw_Sta d_Run_init_10 cl_Run_15 (Nat.le_of_ble_eq_true rfl) (Nat.le_of_ble_eq_true rfl) ?_
  show SJ _ _ _ _ _ [.ref 17, .ref 0] [.inr (6, [.int (ii 0), .null, .null, .null, .null, .null, .null, .int (ii 0)]), .inr (1, [.int (ii 0), .ref 10, .ref 2, .ref 14, .ref 15, .ref 16]), .inr (7, [.ref 3, .ref 8, .ref 9, .int (ii 0), .int (ii (-1))]), .inr (5, [.ref 4, .int (ii 0), .ref 5, .ref 6, .ref 7, .int (ii 0), .int (ii 0)]), .inl (0, 20, .inl (ia (fun _ => 0))), .inl (0, 20, .inl (ia (fun _ => 0))), .inl (0, 20, .inl (ia (fun _ => 0))), .inl (0, 20, .inl (ia (fun _ => 0))), .inl (0, 3, .inl (va_cpy (x_st 2) (ia (fun _ => 0)) 0 0 3)), .inl (5, 6, .inr (.inr (.inr (.inr (fun _ => none))))), .inr (0, [.ref 11, .ref 13, .int (ii 0)]), .inr (8, [.int (ii 0), .ref 12]), .inl (0, 51, .inl (ia (fun _ => 0))), .inl (0, 52, .inl (ia (fun _ => 0))), .inl (0, 16, .inl (ia (fun _ => 0))), .inl (0, 16, .inl (ia (fun _ => 0))), .inl (0, 16, .inl (ia (fun _ => 0))), .inr (7, [.null, .null, .null, .int (ii 0), .int (ii 0)])] _ _ _
  refine j_dup d_Run_init_13 rfl ?_
  refine j_callI (y2 := m_Sta_init) (i := 17) (as := []) (mc2 := 7) (ms2 := 96) d_Run_init_14 c_Run_17 rfl rfl (Nat.le_of_ble_eq_true rfl) (Nat.le_of_ble_eq_true rfl) (Nat.le_of_ble_eq_true rfl) ?_
  refine CT.subG (sub := [.inr (7, [.null, .null, .null, .int (ii 0), .int (ii 0)])]) (args := [.ref 0]) (sgl [17] 17) (sgl_inj2 (by decide) (by decide)) (fun k => sgl_up rfl rfl k) (Emb.hs ⟨rfl, trivial⟩) rfl ?_
  refine n_Sta_init ⟨(Nat.le_of_ble_eq_true rfl), ?_⟩
  show SJ _ _ _ _ _ [.ref 17, .ref 0] [.inr (6, [.int (ii 0), .null, .null, .null, .null, .null, .null, .int (ii 0)]), .inr (1, [.int (ii 0), .ref 10, .ref 2, .ref 14, .ref 15, .ref 16]), .inr (7, [.ref 3, .ref 8, .ref 9, .int (ii 0), .int (ii (-1))]), .inr (5, [.ref 4, .int (ii 0), .ref 5, .ref 6, .ref 7, .int (ii 0), .int (ii 0)]), .inl (0, 20, .inl (ia (fun _ => 0))), .inl (0, 20, .inl (ia (fun _ => 0))), .inl (0, 20, .inl (ia (fun _ => 0))), .inl (0, 20, .inl (ia (fun _ => 0))), .inl (0, 3, .inl (va_cpy (x_st 2) (ia (fun _ => 0)) 0 0 3)), .inl (5, 6, .inr (.inr (.inr (.inr (fun _ => none))))), .inr (0, [.ref 11, .ref 13, .int (ii 0)]), .inr (8, [.int (ii 0), .ref 12]), .inl (0, 51, .inl (ia (fun _ => 0))), .inl (0, 52, .inl (ia (fun _ => 0))), .inl (0, 16, .inl (ia (fun _ => 0))), .inl (0, 16, .inl (ia (fun _ => 0))), .inl (0, 16, .inl (ia (fun _ => 0))), .inr (7, [.ref 18, .ref 23, .ref 24, .int (ii 0), .int (ii (-1))]), .inr (5, [.ref 19, .int (ii 0), .ref 20, .ref 21, .ref 22, .int (ii 0), .int (ii 0)]), .inl (0, 20, .inl (ia (fun _ => 0))), .inl (0, 20, .inl (ia (fun _ => 0))), .inl (0, 20, .inl (ia (fun _ => 0))), .inl (0, 20, .inl (ia (fun _ => 0))), .inl (0, 3, .inl (va_cpy (x_st 2) (ia (fun _ => 0)) 0 0 3)), .inl (5, 6, .inr (.inr (.inr (.inr (fun _ => none)))))] _ _ _
  refine j_putF (ci := 6) (k := 3) d_Run_init_17 f_Run_18 ⟨_, rfl, rfl, rfl⟩ rfl (fun q h => by cases h; rfl) rfl (Nat.le_of_ble_eq_true rfl) x_okR ?_
  show SJ _ _ _ _ _ [] [.inr (6, [.int (ii 0), .null, .null, .ref 17, .null, .null, .null, .int (ii 0)]), .inr (1, [.int (ii 0), .ref 10, .ref 2, .ref 14, .ref 15, .ref 16]), .inr (7, [.ref 3, .ref 8, .ref 9, .int (ii 0), .int (ii (-1))]), .inr (5, [.ref 4, .int (ii 0), .ref 5, .ref 6, .ref 7, .int (ii 0), .int (ii 0)]), .inl (0, 20, .inl (ia (fun _ => 0))), .inl (0, 20, .inl (ia (fun _ => 0))), .inl (0, 20, .inl (ia (fun _ => 0))), .inl (0, 20, .inl (ia (fun _ => 0))), .inl (0, 3, .inl (va_cpy (x_st 2) (ia (fun _ => 0)) 0 0 3)), .inl (5, 6, .inr (.inr (.inr (.inr (fun _ => none))))), .inr (0, [.ref 11, .ref 13, .int (ii 0)]), .inr (8, [.int (ii 0), .ref 12]), .inl (0, 51, .inl (ia (fun _ => 0))), .inl (0, 52, .inl (ia (fun _ => 0))), .inl (0, 16, .inl (ia (fun _ => 0))), .inl (0, 16, .inl (ia (fun _ => 0))), .inl (0, 16, .inl (ia (fun _ => 0))), .inr (7, [.ref 18, .ref 23, .ref 24, .int (ii 0), .int (ii (-1))]), .inr (5, [.ref 19, .int (ii 0), .ref 20, .ref 21, .ref 22, .int (ii 0), .int (ii 0)]), .inl (0, 20, .inl (ia (fun _ => 0))), .inl (0, 20, .inl (ia (fun _ => 0))), .inl (0, 20, .inl (ia (fun _ => 0))), .inl (0, 20, .inl (ia (fun _ => 0))), .inl (0, 3, .inl (va_cpy (x_st 2) (ia (fun _ => 0)) 0 0 3)), .inl (5, 6, .inr (.inr (.inr (.inr (fun _ => none)))))] _ _ _
  refine j_aload_n d_Run_init_20 rfl ?_
  refine nw_Sum d_Run_init_21 cl_Run_22 (Nat.le_of_ble_eq_true rfl) (Nat.le_of_ble_eq_true rfl) ?_
  show SJ _ _ _ _ _ [.ref 25, .ref 0] [.inr (6, [.int (ii 0), .null, .null, .ref 17, .null, .null, .null, .int (ii 0)]), .inr (1, [.int (ii 0), .ref 10, .ref 2, .ref 14, .ref 15, .ref 16]), .inr (7, [.ref 3, .ref 8, .ref 9, .int (ii 0), .int (ii (-1))]), .inr (5, [.ref 4, .int (ii 0), .ref 5, .ref 6, .ref 7, .int (ii 0), .int (ii 0)]), .inl (0, 20, .inl (ia (fun _ => 0))), .inl (0, 20, .inl (ia (fun _ => 0))), .inl (0, 20, .inl (ia (fun _ => 0))), .inl (0, 20, .inl (ia (fun _ => 0))), .inl (0, 3, .inl (va_cpy (x_st 2) (ia (fun _ => 0)) 0 0 3)), .inl (5, 6, .inr (.inr (.inr (.inr (fun _ => none))))), .inr (0, [.ref 11, .ref 13, .int (ii 0)]), .inr (8, [.int (ii 0), .ref 12]), .inl (0, 51, .inl (ia (fun _ => 0))), .inl (0, 52, .inl (ia (fun _ => 0))), .inl (0, 16, .inl (ia (fun _ => 0))), .inl (0, 16, .inl (ia (fun _ => 0))), .inl (0, 16, .inl (ia (fun _ => 0))), .inr (7, [.ref 18, .ref 23, .ref 24, .int (ii 0), .int (ii (-1))]), .inr (5, [.ref 19, .int (ii 0), .ref 20, .ref 21, .ref 22, .int (ii 0), .int (ii 0)]), .inl (0, 20, .inl (ia (fun _ => 0))), .inl (0, 20, .inl (ia (fun _ => 0))), .inl (0, 20, .inl (ia (fun _ => 0))), .inl (0, 20, .inl (ia (fun _ => 0))), .inl (0, 3, .inl (va_cpy (x_st 2) (ia (fun _ => 0)) 0 0 3)), .inl (5, 6, .inr (.inr (.inr (.inr (fun _ => none))))), .inr (8, [.int (ii 0), .null])] _ _ _
  refine j_dup d_Run_init_24 rfl ?_
  refine j_callN (y2 := m_Sum_init) (i := 25) (as := []) (mc2 := 1) (ms2 := 51) d_Run_init_25 cn_Run_24 rfl rfl (Nat.le_of_ble_eq_true rfl) (Nat.le_of_ble_eq_true rfl) (Nat.le_of_ble_eq_true rfl) ?_
  refine CT.subG (sub := [.inr (8, [.int (ii 0), .null])]) (args := [.ref 0]) (sgl [25] 25) (sgl_inj2 (by decide) (by decide)) (fun k => sgl_up rfl rfl k) (Emb.hs ⟨rfl, trivial⟩) rfl ?_
  refine n_Sum_init ⟨(Nat.le_of_ble_eq_true rfl), ?_⟩
  show SJ _ _ _ _ _ [.ref 25, .ref 0] [.inr (6, [.int (ii 0), .null, .null, .ref 17, .null, .null, .null, .int (ii 0)]), .inr (1, [.int (ii 0), .ref 10, .ref 2, .ref 14, .ref 15, .ref 16]), .inr (7, [.ref 3, .ref 8, .ref 9, .int (ii 0), .int (ii (-1))]), .inr (5, [.ref 4, .int (ii 0), .ref 5, .ref 6, .ref 7, .int (ii 0), .int (ii 0)]), .inl (0, 20, .inl (ia (fun _ => 0))), .inl (0, 20, .inl (ia (fun _ => 0))), .inl (0, 20, .inl (ia (fun _ => 0))), .inl (0, 20, .inl (ia (fun _ => 0))), .inl (0, 3, .inl (va_cpy (x_st 2) (ia (fun _ => 0)) 0 0 3)), .inl (5, 6, .inr (.inr (.inr (.inr (fun _ => none))))), .inr (0, [.ref 11, .ref 13, .int (ii 0)]), .inr (8, [.int (ii 0), .ref 12]), .inl (0, 51, .inl (ia (fun _ => 0))), .inl (0, 52, .inl (ia (fun _ => 0))), .inl (0, 16, .inl (ia (fun _ => 0))), .inl (0, 16, .inl (ia (fun _ => 0))), .inl (0, 16, .inl (ia (fun _ => 0))), .inr (7, [.ref 18, .ref 23, .ref 24, .int (ii 0), .int (ii (-1))]), .inr (5, [.ref 19, .int (ii 0), .ref 20, .ref 21, .ref 22, .int (ii 0), .int (ii 0)]), .inl (0, 20, .inl (ia (fun _ => 0))), .inl (0, 20, .inl (ia (fun _ => 0))), .inl (0, 20, .inl (ia (fun _ => 0))), .inl (0, 20, .inl (ia (fun _ => 0))), .inl (0, 3, .inl (va_cpy (x_st 2) (ia (fun _ => 0)) 0 0 3)), .inl (5, 6, .inr (.inr (.inr (.inr (fun _ => none))))), .inr (8, [.int (ii 0), .ref 26]), .inl (0, 51, .inl (ia (fun _ => 0)))] _ _ _
  refine j_putF (ci := 6) (k := 5) d_Run_init_28 f_Run_25 ⟨_, rfl, rfl, rfl⟩ rfl (fun q h => by cases h; rfl) rfl (Nat.le_of_ble_eq_true rfl) x_okR ?_
  show SJ _ _ _ _ _ [] [.inr (6, [.int (ii 0), .null, .null, .ref 17, .null, .ref 25, .null, .int (ii 0)]), .inr (1, [.int (ii 0), .ref 10, .ref 2, .ref 14, .ref 15, .ref 16]), .inr (7, [.ref 3, .ref 8, .ref 9, .int (ii 0), .int (ii (-1))]), .inr (5, [.ref 4, .int (ii 0), .ref 5, .ref 6, .ref 7, .int (ii 0), .int (ii 0)]), .inl (0, 20, .inl (ia (fun _ => 0))), .inl (0, 20, .inl (ia (fun _ => 0))), .inl (0, 20, .inl (ia (fun _ => 0))), .inl (0, 20, .inl (ia (fun _ => 0))), .inl (0, 3, .inl (va_cpy (x_st 2) (ia (fun _ => 0)) 0 0 3)), .inl (5, 6, .inr (.inr (.inr (.inr (fun _ => none))))), .inr (0, [.ref 11, .ref 13, .int (ii 0)]), .inr (8, [.int (ii 0), .ref 12]), .inl (0, 51, .inl (ia (fun _ => 0))), .inl (0, 52, .inl (ia (fun _ => 0))), .inl (0, 16, .inl (ia (fun _ => 0))), .inl (0, 16, .inl (ia (fun _ => 0))), .inl (0, 16, .inl (ia (fun _ => 0))), .inr (7, [.ref 18, .ref 23, .ref 24, .int (ii 0), .int (ii (-1))]), .inr (5, [.ref 19, .int (ii 0), .ref 20, .ref 21, .ref 22, .int (ii 0), .int (ii 0)]), .inl (0, 20, .inl (ia (fun _ => 0))), .inl (0, 20, .inl (ia (fun _ => 0))), .inl (0, 20, .inl (ia (fun _ => 0))), .inl (0, 20, .inl (ia (fun _ => 0))), .inl (0, 3, .inl (va_cpy (x_st 2) (ia (fun _ => 0)) 0 0 3)), .inl (5, 6, .inr (.inr (.inr (.inr (fun _ => none))))), .inr (8, [.int (ii 0), .ref 26]), .inl (0, 51, .inl (ia (fun _ => 0)))] _ _ _
  refine j_aload_n d_Run_init_31 rfl ?_
  refine z_bipush d_Run_init_32 (by decide) ?_
  refine j_newa (t := 0) (N := 52) (a0 := (52, .inl (ia (fun _ => 0)))) d_Run_init_34 rfl (fun _ => rfl) (fun _ _ h => h) wd_a_int (fun _ _ => rfl) (by decide) (by decide) (by decide) (Nat.le_of_ble_eq_true rfl) (Nat.le_of_ble_eq_true rfl) ?_
  show SJ _ _ _ _ _ [.ref 27, .ref 0] [.inr (6, [.int (ii 0), .null, .null, .ref 17, .null, .ref 25, .null, .int (ii 0)]), .inr (1, [.int (ii 0), .ref 10, .ref 2, .ref 14, .ref 15, .ref 16]), .inr (7, [.ref 3, .ref 8, .ref 9, .int (ii 0), .int (ii (-1))]), .inr (5, [.ref 4, .int (ii 0), .ref 5, .ref 6, .ref 7, .int (ii 0), .int (ii 0)]), .inl (0, 20, .inl (ia (fun _ => 0))), .inl (0, 20, .inl (ia (fun _ => 0))), .inl (0, 20, .inl (ia (fun _ => 0))), .inl (0, 20, .inl (ia (fun _ => 0))), .inl (0, 3, .inl (va_cpy (x_st 2) (ia (fun _ => 0)) 0 0 3)), .inl (5, 6, .inr (.inr (.inr (.inr (fun _ => none))))), .inr (0, [.ref 11, .ref 13, .int (ii 0)]), .inr (8, [.int (ii 0), .ref 12]), .inl (0, 51, .inl (ia (fun _ => 0))), .inl (0, 52, .inl (ia (fun _ => 0))), .inl (0, 16, .inl (ia (fun _ => 0))), .inl (0, 16, .inl (ia (fun _ => 0))), .inl (0, 16, .inl (ia (fun _ => 0))), .inr (7, [.ref 18, .ref 23, .ref 24, .int (ii 0), .int (ii (-1))]), .inr (5, [.ref 19, .int (ii 0), .ref 20, .ref 21, .ref 22, .int (ii 0), .int (ii 0)]), .inl (0, 20, .inl (ia (fun _ => 0))), .inl (0, 20, .inl (ia (fun _ => 0))), .inl (0, 20, .inl (ia (fun _ => 0))), .inl (0, 20, .inl (ia (fun _ => 0))), .inl (0, 3, .inl (va_cpy (x_st 2) (ia (fun _ => 0)) 0 0 3)), .inl (5, 6, .inr (.inr (.inr (.inr (fun _ => none))))), .inr (8, [.int (ii 0), .ref 26]), .inl (0, 51, .inl (ia (fun _ => 0))), .inl (0, 52, .inl (ia (fun _ => 0)))] _ _ _
  refine j_putF (ci := 6) (k := 6) d_Run_init_36 f_Run_29 ⟨_, rfl, rfl, rfl⟩ rfl (fun q h => by cases h; rfl) rfl (Nat.le_of_ble_eq_true rfl) x_okA ?_
  show SJ _ _ _ _ _ [] [.inr (6, [.int (ii 0), .null, .null, .ref 17, .null, .ref 25, .ref 27, .int (ii 0)]), .inr (1, [.int (ii 0), .ref 10, .ref 2, .ref 14, .ref 15, .ref 16]), .inr (7, [.ref 3, .ref 8, .ref 9, .int (ii 0), .int (ii (-1))]), .inr (5, [.ref 4, .int (ii 0), .ref 5, .ref 6, .ref 7, .int (ii 0), .int (ii 0)]), .inl (0, 20, .inl (ia (fun _ => 0))), .inl (0, 20, .inl (ia (fun _ => 0))), .inl (0, 20, .inl (ia (fun _ => 0))), .inl (0, 20, .inl (ia (fun _ => 0))), .inl (0, 3, .inl (va_cpy (x_st 2) (ia (fun _ => 0)) 0 0 3)), .inl (5, 6, .inr (.inr (.inr (.inr (fun _ => none))))), .inr (0, [.ref 11, .ref 13, .int (ii 0)]), .inr (8, [.int (ii 0), .ref 12]), .inl (0, 51, .inl (ia (fun _ => 0))), .inl (0, 52, .inl (ia (fun _ => 0))), .inl (0, 16, .inl (ia (fun _ => 0))), .inl (0, 16, .inl (ia (fun _ => 0))), .inl (0, 16, .inl (ia (fun _ => 0))), .inr (7, [.ref 18, .ref 23, .ref 24, .int (ii 0), .int (ii (-1))]), .inr (5, [.ref 19, .int (ii 0), .ref 20, .ref 21, .ref 22, .int (ii 0), .int (ii 0)]), .inl (0, 20, .inl (ia (fun _ => 0))), .inl (0, 20, .inl (ia (fun _ => 0))), .inl (0, 20, .inl (ia (fun _ => 0))), .inl (0, 20, .inl (ia (fun _ => 0))), .inl (0, 3, .inl (va_cpy (x_st 2) (ia (fun _ => 0)) 0 0 3)), .inl (5, 6, .inr (.inr (.inr (.inr (fun _ => none))))), .inr (8, [.int (ii 0), .ref 26]), .inl (0, 51, .inl (ia (fun _ => 0))), .inl (0, 52, .inl (ia (fun _ => 0)))] _ _ _
  refine j_aload_n d_Run_init_39 rfl ?_
  refine z_iconst d_Run_init_40 ?_
  refine j_putf (ci := 6) (k := 7) d_Run_init_41 f_Run_33 ⟨_, rfl, rfl, rfl⟩ rfl (Nat.le_of_ble_eq_true rfl) x_okI ?_
  show SJ _ _ _ _ _ [] [.inr (6, [.int (ii 0), .null, .null, .ref 17, .null, .ref 25, .ref 27, .int (ii (-1))]), .inr (1, [.int (ii 0), .ref 10, .ref 2, .ref 14, .ref 15, .ref 16]), .inr (7, [.ref 3, .ref 8, .ref 9, .int (ii 0), .int (ii (-1))]), .inr (5, [.ref 4, .int (ii 0), .ref 5, .ref 6, .ref 7, .int (ii 0), .int (ii 0)]), .inl (0, 20, .inl (ia (fun _ => 0))), .inl (0, 20, .inl (ia (fun _ => 0))), .inl (0, 20, .inl (ia (fun _ => 0))), .inl (0, 20, .inl (ia (fun _ => 0))), .inl (0, 3, .inl (va_cpy (x_st 2) (ia (fun _ => 0)) 0 0 3)), .inl (5, 6, .inr (.inr (.inr (.inr (fun _ => none))))), .inr (0, [.ref 11, .ref 13, .int (ii 0)]), .inr (8, [.int (ii 0), .ref 12]), .inl (0, 51, .inl (ia (fun _ => 0))), .inl (0, 52, .inl (ia (fun _ => 0))), .inl (0, 16, .inl (ia (fun _ => 0))), .inl (0, 16, .inl (ia (fun _ => 0))), .inl (0, 16, .inl (ia (fun _ => 0))), .inr (7, [.ref 18, .ref 23, .ref 24, .int (ii 0), .int (ii (-1))]), .inr (5, [.ref 19, .int (ii 0), .ref 20, .ref 21, .ref 22, .int (ii 0), .int (ii 0)]), .inl (0, 20, .inl (ia (fun _ => 0))), .inl (0, 20, .inl (ia (fun _ => 0))), .inl (0, 20, .inl (ia (fun _ => 0))), .inl (0, 20, .inl (ia (fun _ => 0))), .inl (0, 3, .inl (va_cpy (x_st 2) (ia (fun _ => 0)) 0 0 3)), .inl (5, 6, .inr (.inr (.inr (.inr (fun _ => none))))), .inr (8, [.int (ii 0), .ref 26]), .inl (0, 51, .inl (ia (fun _ => 0))), .inl (0, 52, .inl (ia (fun _ => 0)))] _ _ _
  refine j_aload_n d_Run_init_44 rfl ?_
  refine j_aload_n d_Run_init_45 rfl ?_
  refine j_putF (ci := 6) (k := 1) d_Run_init_46 f_Run_36 ⟨_, rfl, rfl, rfl⟩ rfl (fun q h => by cases h; rfl) rfl (Nat.le_of_ble_eq_true rfl) x_okR ?_
  show SJ _ _ _ _ _ [] [.inr (6, [.int (ii 0), .ref 2, .null, .ref 17, .null, .ref 25, .ref 27, .int (ii (-1))]), .inr (1, [.int (ii 0), .ref 10, .ref 2, .ref 14, .ref 15, .ref 16]), .inr (7, [.ref 3, .ref 8, .ref 9, .int (ii 0), .int (ii (-1))]), .inr (5, [.ref 4, .int (ii 0), .ref 5, .ref 6, .ref 7, .int (ii 0), .int (ii 0)]), .inl (0, 20, .inl (ia (fun _ => 0))), .inl (0, 20, .inl (ia (fun _ => 0))), .inl (0, 20, .inl (ia (fun _ => 0))), .inl (0, 20, .inl (ia (fun _ => 0))), .inl (0, 3, .inl (va_cpy (x_st 2) (ia (fun _ => 0)) 0 0 3)), .inl (5, 6, .inr (.inr (.inr (.inr (fun _ => none))))), .inr (0, [.ref 11, .ref 13, .int (ii 0)]), .inr (8, [.int (ii 0), .ref 12]), .inl (0, 51, .inl (ia (fun _ => 0))), .inl (0, 52, .inl (ia (fun _ => 0))), .inl (0, 16, .inl (ia (fun _ => 0))), .inl (0, 16, .inl (ia (fun _ => 0))), .inl (0, 16, .inl (ia (fun _ => 0))), .inr (7, [.ref 18, .ref 23, .ref 24, .int (ii 0), .int (ii (-1))]), .inr (5, [.ref 19, .int (ii 0), .ref 20, .ref 21, .ref 22, .int (ii 0), .int (ii 0)]), .inl (0, 20, .inl (ia (fun _ => 0))), .inl (0, 20, .inl (ia (fun _ => 0))), .inl (0, 20, .inl (ia (fun _ => 0))), .inl (0, 20, .inl (ia (fun _ => 0))), .inl (0, 3, .inl (va_cpy (x_st 2) (ia (fun _ => 0)) 0 0 3)), .inl (5, 6, .inr (.inr (.inr (.inr (fun _ => none))))), .inr (8, [.int (ii 0), .ref 26]), .inl (0, 51, .inl (ia (fun _ => 0))), .inl (0, 52, .inl (ia (fun _ => 0)))] _ _ _
  refine j_aload_n d_Run_init_49 rfl ?_
  refine j_aload_n d_Run_init_50 rfl ?_
  refine j_putF (ci := 6) (k := 2) d_Run_init_51 f_Run_39 ⟨_, rfl, rfl, rfl⟩ rfl (fun q h => by cases h; rfl) rfl (Nat.le_of_ble_eq_true rfl) x_okR ?_
  show SJ _ _ _ _ _ [] [.inr (6, [.int (ii 0), .ref 2, .ref 1, .ref 17, .null, .ref 25, .ref 27, .int (ii (-1))]), .inr (1, [.int (ii 0), .ref 10, .ref 2, .ref 14, .ref 15, .ref 16]), .inr (7, [.ref 3, .ref 8, .ref 9, .int (ii 0), .int (ii (-1))]), .inr (5, [.ref 4, .int (ii 0), .ref 5, .ref 6, .ref 7, .int (ii 0), .int (ii 0)]), .inl (0, 20, .inl (ia (fun _ => 0))), .inl (0, 20, .inl (ia (fun _ => 0))), .inl (0, 20, .inl (ia (fun _ => 0))), .inl (0, 20, .inl (ia (fun _ => 0))), .inl (0, 3, .inl (va_cpy (x_st 2) (ia (fun _ => 0)) 0 0 3)), .inl (5, 6, .inr (.inr (.inr (.inr (fun _ => none))))), .inr (0, [.ref 11, .ref 13, .int (ii 0)]), .inr (8, [.int (ii 0), .ref 12]), .inl (0, 51, .inl (ia (fun _ => 0))), .inl (0, 52, .inl (ia (fun _ => 0))), .inl (0, 16, .inl (ia (fun _ => 0))), .inl (0, 16, .inl (ia (fun _ => 0))), .inl (0, 16, .inl (ia (fun _ => 0))), .inr (7, [.ref 18, .ref 23, .ref 24, .int (ii 0), .int (ii (-1))]), .inr (5, [.ref 19, .int (ii 0), .ref 20, .ref 21, .ref 22, .int (ii 0), .int (ii 0)]), .inl (0, 20, .inl (ia (fun _ => 0))), .inl (0, 20, .inl (ia (fun _ => 0))), .inl (0, 20, .inl (ia (fun _ => 0))), .inl (0, 20, .inl (ia (fun _ => 0))), .inl (0, 3, .inl (va_cpy (x_st 2) (ia (fun _ => 0)) 0 0 3)), .inl (5, 6, .inr (.inr (.inr (.inr (fun _ => none))))), .inr (8, [.int (ii 0), .ref 26]), .inl (0, 51, .inl (ia (fun _ => 0))), .inl (0, 52, .inl (ia (fun _ => 0)))] _ _ _
  refine j_aload_n d_Run_init_54 rfl ?_
  refine nw_Dee d_Run_init_55 cl_Run_43 (Nat.le_of_ble_eq_true rfl) (Nat.le_of_ble_eq_true rfl) ?_
  show SJ _ _ _ _ _ [.ref 28, .ref 0] [.inr (6, [.int (ii 0), .ref 2, .ref 1, .ref 17, .null, .ref 25, .ref 27, .int (ii (-1))]), .inr (1, [.int (ii 0), .ref 10, .ref 2, .ref 14, .ref 15, .ref 16]), .inr (7, [.ref 3, .ref 8, .ref 9, .int (ii 0), .int (ii (-1))]), .inr (5, [.ref 4, .int (ii 0), .ref 5, .ref 6, .ref 7, .int (ii 0), .int (ii 0)]), .inl (0, 20, .inl (ia (fun _ => 0))), .inl (0, 20, .inl (ia (fun _ => 0))), .inl (0, 20, .inl (ia (fun _ => 0))), .inl (0, 20, .inl (ia (fun _ => 0))), .inl (0, 3, .inl (va_cpy (x_st 2) (ia (fun _ => 0)) 0 0 3)), .inl (5, 6, .inr (.inr (.inr (.inr (fun _ => none))))), .inr (0, [.ref 11, .ref 13, .int (ii 0)]), .inr (8, [.int (ii 0), .ref 12]), .inl (0, 51, .inl (ia (fun _ => 0))), .inl (0, 52, .inl (ia (fun _ => 0))), .inl (0, 16, .inl (ia (fun _ => 0))), .inl (0, 16, .inl (ia (fun _ => 0))), .inl (0, 16, .inl (ia (fun _ => 0))), .inr (7, [.ref 18, .ref 23, .ref 24, .int (ii 0), .int (ii (-1))]), .inr (5, [.ref 19, .int (ii 0), .ref 20, .ref 21, .ref 22, .int (ii 0), .int (ii 0)]), .inl (0, 20, .inl (ia (fun _ => 0))), .inl (0, 20, .inl (ia (fun _ => 0))), .inl (0, 20, .inl (ia (fun _ => 0))), .inl (0, 20, .inl (ia (fun _ => 0))), .inl (0, 3, .inl (va_cpy (x_st 2) (ia (fun _ => 0)) 0 0 3)), .inl (5, 6, .inr (.inr (.inr (.inr (fun _ => none))))), .inr (8, [.int (ii 0), .ref 26]), .inl (0, 51, .inl (ia (fun _ => 0))), .inl (0, 52, .inl (ia (fun _ => 0))), .inr (1, [.int (ii 0), .null, .null, .null, .null, .null])] _ _ _
  refine j_dup d_Run_init_58 rfl ?_
  refine j_aload_n d_Run_init_59 rfl ?_
  refine j_getf d_Run_init_60 f_Run_18 rfl rfl ?_
  refine j_aload_n d_Run_init_63 rfl ?_
  refine j_getf d_Run_init_64 f_Run_45 rfl rfl ?_
  refine j_callI (y2 := m_Dee_init) (i := 28) (as := [.ref 17, .ref 10]) (mc2 := 3) (ms2 := 48) d_Run_init_67 c_Run_49 rfl rfl (Nat.le_of_ble_eq_true rfl) (Nat.le_of_ble_eq_true rfl) (Nat.le_of_ble_eq_true rfl) ?_
  refine CT.subG (sub := [.inr (1, [.int (ii 0), .null, .null, .null, .null, .null]), .inr (7, [.ref 2, .ref 7, .ref 8, .int (ii 0), .int (ii (-1))]), .inr (5, [.ref 3, .int (ii 0), .ref 4, .ref 5, .ref 6, .int (ii 0), .int (ii 0)]), .inl (0, 20, .inl (ia (fun _ => 0))), .inl (0, 20, .inl (ia (fun _ => 0))), .inl (0, 20, .inl (ia (fun _ => 0))), .inl (0, 20, .inl (ia (fun _ => 0))), .inl (0, 3, .inl (va_cpy (x_st 2) (ia (fun _ => 0)) 0 0 3)), .inl (5, 6, .inr (.inr (.inr (.inr (fun _ => none))))), .inr (0, [.ref 10, .ref 12, .int (ii 0)]), .inr (8, [.int (ii 0), .ref 11]), .inl (0, 51, .inl (ia (fun _ => 0))), .inl (0, 52, .inl (ia (fun _ => 0)))]) (args := [.ref 0, .ref 1, .ref 9]) (sgl [28, 17, 18, 19, 20, 21, 22, 23, 24, 10, 11, 12, 13] 16) (sgl_inj2 (by decide) (by decide)) (fun k => sgl_up rfl rfl k) (Emb.hs ⟨rfl, rfl, rfl, rfl, rfl, rfl, rfl, rfl, rfl, rfl, rfl, rfl, rfl, trivial⟩) rfl ?_
  refine n_Dee_init ⟨(Nat.le_of_ble_eq_true rfl), ?_⟩
  refine j_putF (ci := 6) (k := 4) d_Run_init_70 f_Run_52 ⟨_, rfl, rfl, rfl⟩ rfl (fun q h => by cases h; rfl) rfl (Nat.le_of_ble_eq_true rfl) x_okR ?_
  exact j_return rfl d_Run_init_73 hQ
