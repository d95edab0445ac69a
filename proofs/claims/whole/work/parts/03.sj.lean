/-! THE JUDGEMENT SJ: a method's frame over a picture of memory. Cells have numbers (places in the list mem); ad tells their addresses, ex those of the static tables. -/
abbrev xM : Type := (Nat × vp_A) ⊕ (Nat × List Value)
abbrev xY : Type := MethodName × ByteArray × Nat × Option FieldType
def x_v (ad ex : Nat → Nat) (v : Value) : Value := match v with
  | .ref a => .ref (ad a)
  | .retAddr j => .ref (ex j)
  | w => w
theorem x_v_cat {ad ex : Nat → Nat} (v : Value) : (x_v ad ex v).category = v.category := by cases v <;> rfl
def x_a (ad : Nat → Nat) (a : vp_A) : vp_A := match a with
  | (n, .inr (.inr (.inr (.inr f)))) => (n, .inr (.inr (.inr (.inr (fun i => (f i).map ad)))))
  | z => z
def x_e (ad ex : Nat → Nat) (dA : Nat → ClassId) (q : xM) : va_E := match q with
  | .inl (t, a) => .inl (dA t, x_a ad a)
  | .inr (ci, fs) => .inr (ci, fs.map (x_v ad ex))
def x_w (ad ex : Nat → Nat) (dA : Nat → ClassId) (mem : List xM) : va_W := mem.mapIdx (fun i q => (ad i, x_e ad ex dA q))
theorem x_w_at {ad ex : Nat → Nat} {dA : Nat → ClassId} {mem : List xM} {i : Nat} {q : xM} (h : mem[i]? = some q) : (x_w ad ex dA mem)[i]? = some (ad i, x_e ad ex dA q) := by
  unfold x_w
  rw [List.getElem?_mapIdx, h]
  rfl
theorem x_w_of {ad ex : Nat → Nat} {dA : Nat → ClassId} {mem : List xM} {i : Nat} {z : Nat × va_E} (h : (x_w ad ex dA mem)[i]? = some z) : ∃ q, mem[i]? = some q ∧ z = (ad i, x_e ad ex dA q) := by
  unfold x_w at h
  rw [List.getElem?_mapIdx] at h
  cases hq : mem[i]? with
  | none => rw [hq] at h; cases h
  | some q => rw [hq] at h; exact ⟨q, rfl, (Option.some.inj h).symm⟩
theorem x_w_set {ad ex : Nat → Nat} {dA : Nat → ClassId} {mem : List xM} (i : Nat) (q : xM) : (x_w ad ex dA mem).set i (ad i, x_e ad ex dA q) = x_w ad ex dA (mem.set i q) := by
  unfold x_w
  rw [List.mapIdx_set]
theorem x_w_push {ad ex : Nat → Nat} {dA : Nat → ClassId} {mem : List xM} (q : xM) : x_w ad ex dA mem ++ [(ad mem.length, x_e ad ex dA q)] = x_w ad ex dA (mem ++ [q]) := by
  unfold x_w
  rw [List.mapIdx_concat]
theorem x_w_len {ad ex : Nat → Nat} {dA : Nat → ClassId} {mem : List xM} : (x_w ad ex dA mem).length = mem.length := by
  unfold x_w
  rw [List.length_mapIdx]
/-- the cells are apart -/
theorem x_w_D {ad ex : Nat → Nat} {dA : Nat → ClassId} {mem : List xM} {A : Nat → Prop} (hi : ∀ i j : Nat, ad i = ad j → i = j) (hA : ∀ i : Nat, i < mem.length → A (ad i)) : va_D A (x_w ad ex dA mem) := by
  refine ⟨fun i j p q h1 h2 h => ?_, fun k q h => ?_⟩
  · obtain ⟨a, -, rfl⟩ := x_w_of h1
    obtain ⟨b, -, rfl⟩ := x_w_of h2
    exact hi i j h
  · obtain ⟨a, h1, rfl⟩ := x_w_of h
    exact hA k (List.getElem?_eq_some_iff.mp h1).1
/-- the locals -/
def x_L (ad ex : Nat → Nat) (ls : Array Slot) (nL : Nat) (L : List (Option Value)) : Prop := ls.size = nL ∧ lv_wf ls ∧ ∀ (i : Nat) (v : Value), L[i]? = some (some v) → ls[i]? = some (.val (x_v ad ex v))
def x_ll (ad ex : Nat → Nat) (L : List (Option Value)) : List (Nat × Value) := L.zipIdx.filterMap (fun q => q.1.map (fun v => (q.2, x_v ad ex v)))
theorem x_ll_of {ad ex : Nat → Nat} {L : List (Option Value)} {q : Nat × Value} (h : q ∈ x_ll ad ex L) : ∃ v, L[q.1]? = some (some v) ∧ q.2 = x_v ad ex v := by
  obtain ⟨⟨o, i⟩, h1, h2⟩ := List.mem_filterMap.mp h
  cases o with
  | none => cases h2
  | some v =>
    cases h2
    exact ⟨v, List.mem_zipIdx_iff_getElem?.mp h1, rfl⟩
theorem x_ll_in {ad ex : Nat → Nat} {L : List (Option Value)} {i : Nat} {v : Value} (h : L[i]? = some (some v)) : (i, x_v ad ex v) ∈ x_ll ad ex L :=
  List.mem_filterMap.mpr ⟨(some v, i), List.mem_zipIdx_iff_getElem?.mpr h, rfl⟩
theorem x_L.has {ad ex : Nat → Nat} {ls : Array Slot} {nL : Nat} {L : List (Option Value)} (h : x_L ad ex ls nL L) : lv_has ls nL (x_ll ad ex L) := by
  refine ⟨h.1, h.2.1, fun q hq => ?_⟩
  obtain ⟨v, h1, h2⟩ := x_ll_of hq
  rw [h2]
  exact h.2.2 _ _ h1
def x_kill (L : List (Option Value)) (i : Nat) : List (Option Value) := match L[i - 1]? with
  | some (some w) => if w.category = 2 then L.set (i - 1) none else L
  | _ => L
def x_s1 (L : List (Option Value)) (i : Nat) (v : Value) : List (Option Value) := (x_kill L i).set i (some v)
def x_s2 (L : List (Option Value)) (i : Nat) (v : Value) : List (Option Value) := (x_s1 L i v).set (i + 1) none
theorem x_kill_of {L : List (Option Value)} {i j : Nat} {u : Value} (hj : ¬ j = i) (h : (x_kill L i)[j]? = some (some u)) : L[j]? = some (some u) ∧ ¬ (j + 1 = i ∧ u.category = 2) := by
  unfold x_kill at h
  split at h
  · next w hw =>
    split at h
    · by_cases hji : j = i - 1
      · rw [hji, List.getElem?_set] at h
        simp at h
      · rw [List.getElem?_set_ne (Ne.symm hji)] at h
        exact ⟨h, fun q => hji (by omega)⟩
    · next hc =>
      refine ⟨h, fun q => ?_⟩
      have e : i - 1 = j := by omega
      rw [e, h] at hw
      cases hw
      exact hc q.2
  · next hno =>
    refine ⟨h, fun q => ?_⟩
    have e : i - 1 = j := by omega
    rw [e] at hno
    exact hno u h
theorem x_s1_of {L : List (Option Value)} {i j : Nat} {u v : Value} (h : (x_s1 L i v)[j]? = some (some u)) : (j = i ∧ u = v) ∨ (¬ j = i ∧ L[j]? = some (some u) ∧ ¬ (j + 1 = i ∧ u.category = 2)) := by
  unfold x_s1 at h
  by_cases hj : j = i
  · subst hj
    rw [List.getElem?_set] at h
    simp at h
    exact Or.inl ⟨rfl, h.2.symm⟩
  · rw [List.getElem?_set_ne (Ne.symm hj)] at h
    exact Or.inr ⟨hj, x_kill_of hj h⟩
theorem x_s2_of {L : List (Option Value)} {i j : Nat} {u v : Value} (h : (x_s2 L i v)[j]? = some (some u)) : (j = i ∧ u = v) ∨ (¬ j = i ∧ ¬ j = i + 1 ∧ L[j]? = some (some u) ∧ ¬ (j + 1 = i ∧ u.category = 2)) := by
  unfold x_s2 at h
  by_cases hj : j = i + 1
  · subst hj
    rw [List.getElem?_set] at h
    simp at h
  · rw [List.getElem?_set_ne (Ne.symm hj)] at h
    rcases x_s1_of h with h | h
    · exact Or.inl h
    · exact Or.inr ⟨h.1, hj, h.2⟩
theorem x_L.st1 {ad ex : Nat → Nat} {ls : Array Slot} {nL i : Nat} {L : List (Option Value)} {v : Value} (h : lv_has ls nL ((i, x_v ad ex v) :: (x_ll ad ex L).filter (fun q => !(q.1 == i) && !(q.1 + 1 == i && q.2.category == 2)))) : x_L ad ex ls nL (x_s1 L i v) := by
  refine ⟨h.1, h.2.1, fun j u hj => ?_⟩
  rcases x_s1_of hj with ⟨rfl, rfl⟩ | ⟨h1, h2, h3⟩
  · exact h.2.2 (j, x_v ad ex u) List.mem_cons_self
  · refine h.2.2 (j, x_v ad ex u) (List.mem_cons_of_mem _ (List.mem_filter.mpr ⟨x_ll_in h2, ?_⟩))
    simp only [Bool.and_eq_true, Bool.not_eq_true', beq_eq_false_iff_ne, ne_eq, Bool.and_eq_false_iff, x_v_cat]
    refine ⟨h1, ?_⟩
    by_cases hq : j + 1 = i
    · exact Or.inr (fun e => h3 ⟨hq, e⟩)
    · exact Or.inl hq
theorem x_L.st2 {ad ex : Nat → Nat} {ls : Array Slot} {nL i : Nat} {L : List (Option Value)} {v : Value} (h : lv_has ls nL ((i, x_v ad ex v) :: (x_ll ad ex L).filter (fun q => !(q.1 == i) && (!(q.1 == i + 1) && !(q.1 + 1 == i && q.2.category == 2))))) : x_L ad ex ls nL (x_s2 L i v) := by
  refine ⟨h.1, h.2.1, fun j u hj => ?_⟩
  rcases x_s2_of hj with ⟨rfl, rfl⟩ | ⟨h1, h1', h2, h3⟩
  · exact h.2.2 (j, x_v ad ex u) List.mem_cons_self
  · refine h.2.2 (j, x_v ad ex u) (List.mem_cons_of_mem _ (List.mem_filter.mpr ⟨x_ll_in h2, ?_⟩))
    simp only [Bool.and_eq_true, Bool.not_eq_true', beq_eq_false_iff_ne, ne_eq, Bool.and_eq_false_iff, x_v_cat]
    refine ⟨h1, h1', ?_⟩
    by_cases hq : j + 1 = i
    · exact Or.inr (fun e => h3 ⟨hq, e⟩)
    · exact Or.inl hq
/-- the array classes by their numbers -/
def x_ty (dA : Nat → ClassId) : List (ClassId × FieldType) := [(dA 0, .int), (dA 1, .byte), (dA 2, .boolean), (dA 3, .long), (dA 4, .char), (dA 5, .object "BracketHouse$Text"), (dA 6, .object "BracketHouse$State"), (dA 7, .array .int), (dA 8, .array .long)]
/-- the static tables -/
def x_sn (j : Nat) : String := match j with
  | 0 => "LEAST_TERM"
  | 1 => "GREATEST_TERM"
  | _ => "FIRST_TERM"
def x_st (j k : Nat) : Int32 := match j, k with
  | 0, 1 => 1
  | 0, _ => 0
  | 1, 0 => 999
  | 1, _ => 9
  | _, 1 => 4
  | _, _ => 0
/-- the law's script, the class's one text, and what its characters ask for -/
def x_tb : List Int32 := [99, 111, 115, 116, 115, 32, 115, 116, 114, 105, 107, 101, 115, 32, 119, 111, 114, 116, 104, 32, 98, 97, 114, 115, 32, 112, 117, 116, 32, 99, 117, 116, 32, 116, 117, 114, 110, 32, 112, 97, 115, 115, 32, 105, 102, 32, 111, 114, 32, 97, 110, 100, 32, 110, 111, 116, 32, 97, 116, 32, 116, 111, 32, 116, 105, 109, 101, 115, 32, 107, 105, 110, 100, 32, 111, 112, 101, 110, 32, 112, 101, 114, 115, 111, 110, 32, 112, 108, 97, 99, 101, 32, 109, 111, 111, 100, 32, 115, 105, 103, 110, 32, 108, 101, 110, 103, 116, 104, 32, 112, 97, 103, 101, 32, 100, 111, 110, 101, 32, 108, 97, 116, 101, 115, 116, 32, 108, 111, 111, 115, 101, 32, 100, 101, 101, 112, 32]
def x_wt : String := "costs strikes worth bars put cut turn pass if or and not at to times kind open person place mood sign length page done latest loose deep "
theorem x_ao {ty : FieldType} {u U : State} (hvm : u.vm.Alike U.vm) (h : va_Nw (.arrayOver ty) u) : va_Nw (.arrayOver ty) U := by
  have h1 : (Cond.arrayOver ty).before #[] (u.setVm U.vm) = true := by rw [Cond.arrayOver_setVmC hvm]; exact h
  unfold va_Nw
  unfold Cond.before Cond.holds at h1 ⊢
  simp only [Cond.value] at h1 ⊢
  exact h1
def x_Y (ex : Nat → Nat) (A : Nat → Prop) (U : State) (H : Heap) : Prop := va_T .int (ex 3) (ex 6) (fun k => .int (Int32.ofNat (ex (7 + k)))) A U H ∧ vk_R "BracketHouse$Tape" 31 x_wt (ex 4) U ∧ va_O "java/lang/String" (ex 4) A U H ∧ va_OF "java/lang/String" "coder" "B" (.int 0) (ex 4) A U H ∧ va_OF "java/lang/String" "value" "[B" (.ref (ex 5)) (ex 4) A U H ∧ va_T .byte (ex 5) 137 (fun j => .int (x_tb.getD j 0)) A U H ∧ va_Z "java/lang/String" "COMPACT_STRINGS" "Z" (.int 1) A U H ∧ va_Nw (.arrayOver (.array .int)) U ∧ va_Nw (.arrayOver (.array .long)) U ∧ va_Nw (.castable "[I" "java/lang/Cloneable") U
theorem x_Y.moved {ex : Nat → Nat} {A : Nat → Prop} {s U : State} {H : Heap} {locs : List Loc} (h : x_Y ex A s s.heap) (hS : va_S A s.heap H locs) (hU : U.heap = H) (hW : s.WarmedH U.vm) : x_Y ex A U U.heap := by
  obtain ⟨h1, h2, h3, h4, h5, h6, h7, h8, h9, h10⟩ := h
  have hq : ∀ a : Nat, a < s.heap.size → ¬ A a → U.heap[a]? = s.heap[a]? := fun a ha hA => by rw [hU]; exact hS.2.1 a ha hA
  exact ⟨va_T.moved hW.alike (h1.kept hq), h2.warm hW, va_O.moved hW.alike (h3.kept hq), va_OF.moved hW.alike (h4.kept hq), va_OF.moved hW.alike (h5.kept hq), va_T.moved hW.alike (h6.kept hq), va_Z.moved hW.alike (h7.kept hq), x_ao hW.alike h8, x_ao hW.alike h9, va_Nw.warmC hW h10⟩
theorem x_Y.alike {ex : Nat → Nat} {A : Nat → Prop} {u U : State} {H : Heap} (h : x_Y ex A u H) (hv : U.vm = u.vm) : x_Y ex A U H := by
  obtain ⟨h1, h2, h3, h4, h5, h6, h7, h8, h9, h10⟩ := h
  have ha : u.vm.Alike U.vm := by rw [hv]; exact Vm.Alike.refl u.vm
  exact ⟨va_T.moved ha h1, h2.same hv, va_O.moved ha h3, va_OF.moved ha h4, va_OF.moved ha h5, va_T.moved ha h6, va_Z.moved ha h7, x_ao ha h8, x_ao ha h9, va_Nw.same rfl hv.symm h10⟩
theorem x_Y.less {ex : Nat → Nat} {A A' : Nat → Prop} {U : State} {H : Heap} (h : x_Y ex A U H) (hA : ∀ q, A' q → A q) : x_Y ex A' U H := by
  obtain ⟨h1, h2, h3, h4, h5, h6, h7, h8, h9, h10⟩ := h
  exact ⟨h1.narrow hA, h2, h3.narrow hA, h4.narrow hA, h5.narrow hA, h6.narrow hA, h7.narrow hA, h8, h9, h10⟩
def x_X (ex : Nat → Nat) (A : Nat → Prop) (U : State) (H : Heap) : Prop := (∀ j : Nat, j < 3 → va_Z "BracketHouse" (x_sn j) "[I" (.ref (ex j)) A U H ∧ va_T .int (ex j) 3 (fun k => .int (x_st j k)) A U H) ∧ x_Y ex A U H
/-- links to private members of nest mates -/
def x_nM : List (String × Nat × MethodName × String) := [("BracketHouse$State", 11, ⟨"BracketHouse$Row", "<init>", "()V"⟩, "BracketHouse"), ("BracketHouse", 29, ⟨"BracketHouse$Tape", "<init>", "()V"⟩, "BracketHouse"), ("BracketHouse", 45, ⟨"BracketHouse$Asker", "<init>", "()V"⟩, "BracketHouse"), ("BracketHouse$Asker", 11, ⟨"BracketHouse$Sums", "<init>", "()V"⟩, "BracketHouse"), ("BracketHouse$Runner", 24, ⟨"BracketHouse$Sums", "<init>", "()V"⟩, "BracketHouse"), ("BracketHouse$Paper", 48, ⟨"BracketHouse$Row", "<init>", "()V"⟩, "BracketHouse"), ("BracketHouse", 82, ⟨"BracketHouse$Numbering", "<init>", "()V"⟩, "BracketHouse")]
def x_N (U : State) : Prop := (∀ q ∈ x_nM, va_Nw (.methodLinkNest q.1 q.2.1 q.2.2.1 q.2.2.2) U) ∧ va_Nw (.fieldLinkNest "BracketHouse$State" 35 "BracketHouse" "FIRST_TERM" "[I" "BracketHouse") U
/-- what stays through a method -/
def x_F (g : Bool) (ad ex : Nat → Nat) (dA : Nat → ClassId) (D : va_G) (A : Nat → Prop) (U : State) : Prop := va_K D xcl (x_ty dA) U ∧ x_X ex A U U.heap ∧ x_N U ∧ (∀ i j : Nat, ad i = ad j → i = j) ∧ (g = true → ∀ q, U.heap.size ≤ q → A q) ∧ va_AO "BracketHouse$Text" U ∧ va_AO "BracketHouse$State" U
/-- the picture -/
def x_M (g : Bool) (ad ex : Nat → Nat) (dA : Nat → ClassId) (D : va_G) (A : Nat → Prop) (mem : List xM) (H : Heap) : Prop := va_P D xcl (x_w ad ex dA mem) H ∧ (∀ i : Nat, i < mem.length → A (ad i)) ∧ (g = true → H.size = ad mem.length ∧ ∀ i : Nat, mem.length ≤ i → ad (i + 1) = ad i + 1)
theorem x_F.moved {g : Bool} {ad ex : Nat → Nat} {dA : Nat → ClassId} {D : va_G} {A : Nat → Prop} {s U : State} {H : Heap} {locs : List Loc} (h : x_F g ad ex dA D A s) (hS : va_S A s.heap H locs) (hU : U.heap = H) (hW : s.WarmedH U.vm) : x_F g ad ex dA D A U := by
  obtain ⟨h1, h2, h3, h4, h5, h6, h7⟩ := h
  refine ⟨va_K.moved hW.alike h1, ⟨fun j hj => ?_, h2.2.moved hS hU hW⟩, ⟨fun q hq => va_Nw.warmM hW (h3.1 q hq), va_Nw.warmF hW h3.2⟩, h4, fun hg q hq => h5 hg q (by rw [hU] at hq; exact Nat.le_trans hS.1 hq), h6.moved hW.alike, h7.moved hW.alike⟩
  obtain ⟨z1, z2⟩ := h2.1 j hj
  rw [hU]
  exact ⟨va_Z.moved hW.alike (z1.kept (fun a ha hA => hS.2.1 a ha hA)), va_T.moved hW.alike (z2.kept (fun a ha hA => hS.2.1 a ha hA))⟩
theorem x_F.calling {g : Bool} {ad ex : Nat → Nat} {dA : Nat → ClassId} {D : va_G} {A : Nat → Prop} {U : State} {a : Array Value} {f : JFrame} {mk : MethodId} (h : x_F g ad ex dA D A U) : x_F g ad ex dA D A (U.calling f mk a) := by
  obtain ⟨h1, h2, h3, h4, h5, h6, h7⟩ := h
  exact ⟨va_K.moved (u := U) (U := U.calling f mk a) (Vm.Alike.refl U.vm) h1, ⟨fun j hj => ⟨va_Z.moved (u := U) (U := U.calling f mk a) (Vm.Alike.refl U.vm) (h2.1 j hj).1, va_T.moved (u := U) (U := U.calling f mk a) (Vm.Alike.refl U.vm) (h2.1 j hj).2⟩, x_Y.alike (u := U) (U := U.calling f mk a) h2.2 rfl⟩, ⟨fun q hq => va_Nw.same rfl rfl (h3.1 q hq), va_Nw.same rfl rfl h3.2⟩, h4, h5, va_AO.moved (u := U) (U := U.calling f mk a) (Vm.Alike.refl U.vm) h6, va_AO.moved (u := U) (U := U.calling f mk a) (Vm.Alike.refl U.vm) h7⟩
def x_ws (y : xY) : List Cond := .code y.1 y.2.1 y.2.2.1 y.2.2.2 :: gw
def x_rm (d mc ms : Nat) : Room := { frames := d, cells := mc, slots := ms, locals := 64 * d }
def x_P (g : Bool) (ad ex : Nat → Nat) (dA : Nat → ClassId) (D : va_G) (A : Nat → Prop) (args : List Value) (mem : List xM) : Array Value → State → Prop := fun v U => v = (args.map (x_v ad ex)).toArray ∧ x_F g ad ex dA D A U ∧ x_M g ad ex dA D A mem U.heap
def x_Q (g : Bool) (ad ex : Nat → Nat) (dA : Nat → ClassId) (D : va_G) (A : Nat → Prop) (Q : List xM → Option Value → Prop) : Array Value → State → Outcome → State → Prop := fun _ st oc t => (∃ (mem : List xM) (r : Option Value), oc = .returned (r.map (x_v ad ex)) ∧ Q mem r ∧ x_M g ad ex dA D A mem t.heap) ∧ va_F A st t
/-- a method's contract -/
def CT (g : Bool) (y : xY) (d : Nat) (args : List Value) (mem : List xM) (mc ms : Nat) (Q : List xM → Option Value → Prop) : Prop :=
  ∀ ⦃l : Launch⦄ ⦃ad ex : Nat → Nat⦄ ⦃dA : Nat → ClassId⦄ ⦃D : va_G⦄ ⦃A : Nat → Prop⦄, Met l y.1 (x_ws y) (x_rm d mc ms) (x_P g ad ex dA D A args mem) (x_Q g ad ex dA D A Q) mc ms A
/-- what holds of a frame -/
def x_I (g : Bool) (y : xY) (ad ex : Nat → Nat) (dA : Nat → ClassId) (D : va_G) (A : Nat → Prop) (p : Program) (s : State) (m : MethodId) (args : Array Value) (meth : Method) (c : Code) (H : Heap) (locs : List Loc) (cells slots : Nat) (ls : Array Slot) (mc ms : Nat) (L : List (Option Value)) (mem : List xM) (bc bs : Nat) : Prop :=
  (p.tables.exec = Jvm.exec ∧ c.code = y.2.1 ∧ meth.sig.returnType = y.2.2.2 ∧ meth.locks = false ∧ c.maxLocals = y.2.2.1 ∧ s.vm.findClass y.1.cls = some m.cls ∧ meth.name = y.1.name ∧ (∀ w ∈ gw, w.before args s = true)) ∧
  x_F g ad ex dA D A s ∧ x_M g ad ex dA D A mem H ∧ va_S A s.heap H locs ∧ x_L ad ex ls y.2.2.1 L ∧ cells + bc ≤ mc ∧ slots + bs ≤ ms
def SJ (g : Bool) (y : xY) (d pc : Nat) (L : List (Option Value)) (st : List Value) (mem : List xM) (bc bs : Nat) (Q : List xM → Option Value → Prop) : Prop :=
  ∀ ⦃l : Launch⦄ ⦃ad ex : Nat → Nat⦄ ⦃dA : Nat → ClassId⦄ ⦃D : va_G⦄ ⦃A : Nat → Prop⦄ ⦃p : Program⦄ ⦃e : Env⦄ ⦃s : State⦄ ⦃m : MethodId⦄ ⦃args : Array Value⦄ ⦃below : List Frame⦄ ⦃meth : Method⦄ ⦃c : Code⦄ ⦃H : Heap⦄ ⦃locs : List Loc⦄ ⦃cells slots : Nat⦄ ⦃ls : Array Slot⦄ ⦃mc ms : Nat⦄,
    x_I g y ad ex dA D A p s m args meth c H locs cells slots ls mc ms L mem bc bs → W p l e (x_rm d mc ms) s m args below meth c H locs cells slots (MQ below (x_Q g ad ex dA D A Q) args s mc ms A) (F0 m pc ls (st.map (x_v ad ex)))

/-- the locals at a method's entry -/
def x_en : List Value → List (Option Value)
  | [] => []
  | v :: vs => if v.category = 2 then some v :: none :: x_en vs else some v :: x_en vs
def x_ent (n : Nat) (args : List Value) : List (Option Value) := x_en args ++ List.replicate (n - (x_en args).length) none
theorem x_en_of : ∀ (args : List Value) (b i : Nat) (v : Value), (x_en args)[i]? = some (some v) → (b + i, v) ∈ lv_args b args
  | [], b, i, v, h => by simp [x_en] at h
  | w :: ws, b, i, v, h => by
    unfold x_en at h
    unfold lv_args
    by_cases hc : w.category = 2
    · rw [if_pos hc] at h
      rw [if_pos hc]
      match i, h with
      | 0, h =>
        rw [List.getElem?_cons_zero] at h
        cases h
        exact List.mem_cons_self
      | 1, h => simp at h
      | i + 2, h =>
        have h2 := x_en_of ws (b + 2) i v (by simpa using h)
        rw [show b + (i + 2) = b + 2 + i by omega]
        exact List.mem_cons_of_mem _ h2
    · rw [if_neg hc] at h
      rw [if_neg hc]
      match i, h with
      | 0, h =>
        rw [List.getElem?_cons_zero] at h
        cases h
        exact List.mem_cons_self
      | i + 1, h =>
        have h2 := x_en_of ws (b + 1) i v (by simpa using h)
        rw [show b + (i + 1) = b + 1 + i by omega]
        exact List.mem_cons_of_mem _ h2
theorem x_ent_of {n : Nat} {args : List Value} {i : Nat} {v : Value} (h : (x_ent n args)[i]? = some (some v)) : (i, v) ∈ lv_args 0 args := by
  unfold x_ent at h
  by_cases hl : i < (x_en args).length
  · rw [List.getElem?_append_left hl] at h
    have := x_en_of args 0 i v h
    simpa using this
  · rw [List.getElem?_append_right (by omega), List.getElem?_replicate] at h
    split at h <;> simp at h
theorem x_args_map (f : Value → Value) (hf : ∀ v, (f v).category = v.category) : ∀ (args : List Value) (b : Nat), lv_args b (args.map f) = (lv_args b args).map (fun q => (q.1, f q.2))
  | [], b => rfl
  | v :: vs, b => by
    show (b, f v) :: lv_args (if (f v).category = 2 then b + 2 else b + 1) (vs.map f) = _
    rw [hf v, x_args_map f hf vs]
    rfl
theorem x_sl_len (f : Value → Value) (hf : ∀ v, (f v).category = v.category) : ∀ (args : List Value), (lg_sl (args.map f)).length = (lg_sl args).length
  | [] => rfl
  | v :: vs => by
    have ih := x_sl_len f hf vs
    simp only [lg_sl, List.map_cons, List.flatMap_cons, List.length_append, hf v] at ih ⊢
    rw [ih]
    split <;> rfl
theorem CT.of {g : Bool} {y : xY} {d : Nat} {as : List Value} {mem : List xM} {mc ms : Nat} {Q : List xM → Option Value → Prop} (hy : plainName y.1.cls = true) (hn : (lg_sl as).length ≤ y.2.2.1) (k : SJ g y d 0 (x_ent y.2.2.1 as) [] mem mc ms Q) : CT g y d as mem mc ms Q := by
  intro l ad ex dA D A
  refine Met.ofW (cc := y.2.1) (maxL := y.2.2.1) (ret := y.2.2.2) hy rfl ?_
  intro p e s m args below meth c s₁ B hml hv
  obtain ⟨rfl, hF, hM⟩ := hv
  have hts := atoms_spec (ws := x_ws y) B.pre
  have hl := lv_entry (as.map (x_v ad ex)) (n := y.2.2.1) (by rw [x_sl_len _ x_v_cat]; exact hn)
  rw [lg_entry_eq]
  generalize (lg_sl (as.map (x_v ad ex)) ++ List.replicate (y.2.2.1 - (lg_sl (as.map (x_v ad ex))).length) Slot.unset).toArray = ls at hl ⊢
  refine k ⟨⟨B.exec, B.bytes, B.returns, B.notSynchronized, hml, findClass_of_methodNamed B.named, (name_of_methodNamed B.named B.method).1, fun w hw => hts w (List.mem_cons_of_mem _ hw)⟩, hF, hM, va_S.rf, ⟨hl.1, hl.2.1, fun i v h => ?_⟩, Nat.le_of_eq (Nat.zero_add _), Nat.le_of_eq (Nat.zero_add _)⟩
  refine hl.2.2 (i, x_v ad ex v) ?_
  rw [x_args_map _ x_v_cat]
  exact List.mem_map.mpr ⟨(i, v), x_ent_of h, rfl⟩

section SJR
variable {g : Bool} {y : xY} {d pc : Nat} {L : List (Option Value)} {st : List Value} {mem : List xM} {bc bs : Nat} {Q : List xM → Option Value → Prop}
theorem j_iconst {n : Int} {v : Int32} (hd : decode y.2.1 pc = .ok (.iconst n, 1)) (hv : Int32.ofInt n = v) (k : SJ g y d (pc + 1) L (.int v :: st) mem bc bs Q) : SJ g y d pc L st mem bc bs Q := by
  intro l ad ex dA D A p e s m args below meth c H locs cells slots ls mc ms hI
  exact lv_iconst hI.1.1 hI.1.2.1 hd hv (k hI)
theorem j_bipush {n : Int} {v : Int32} (hd : decode y.2.1 pc = .ok (.bipush n, 2)) (hv : (Int8.ofInt n).toInt32 = v) (k : SJ g y d (pc + 2) L (.int v :: st) mem bc bs Q) : SJ g y d pc L st mem bc bs Q := by
  intro l ad ex dA D A p e s m args below meth c H locs cells slots ls mc ms hI
  exact lv_bipush hI.1.1 hI.1.2.1 hd hv (k hI)
theorem j_sipush {n : Int} {v : Int32} (hd : decode y.2.1 pc = .ok (.sipush n, 3)) (hv : (Int16.ofInt n).toInt32 = v) (k : SJ g y d (pc + 3) L (.int v :: st) mem bc bs Q) : SJ g y d pc L st mem bc bs Q := by
  intro l ad ex dA D A p e s m args below meth c H locs cells slots ls mc ms hI
  exact lv_sipush hI.1.1 hI.1.2.1 hd hv (k hI)
theorem j_lconst {n : Fin 2} {v : Int64} (hd : decode y.2.1 pc = .ok (.lconst n, 1)) (hv : Int64.ofNat (n : Nat) = v) (k : SJ g y d (pc + 1) L (.long v :: st) mem bc bs Q) : SJ g y d pc L st mem bc bs Q := by
  intro l ad ex dA D A p e s m args below meth c H locs cells slots ls mc ms hI
  exact lv_lconst hI.1.1 hI.1.2.1 hd hv (k hI)
theorem j_null (hd : decode y.2.1 pc = .ok (.aconst_null, 1)) (k : SJ g y d (pc + 1) L (.null :: st) mem bc bs Q) : SJ g y d pc L st mem bc bs Q := by
  intro l ad ex dA D A p e s m args below meth c H locs cells slots ls mc ms hI
  exact lv_null hI.1.1 hI.1.2.1 hd (k hI)
theorem j_ldc {i : Nat} {v : Int32} (hd : decode y.2.1 pc = .ok (.ldc i, 2)) (hw : Cond.constant y.1.cls i v ∈ gw) (k : SJ g y d (pc + 2) L (.int v :: st) mem bc bs Q) : SJ g y d pc L st mem bc bs Q := by
  intro l ad ex dA D A p e s m args below meth c H locs cells slots ls mc ms hI
  exact lv_ldc hI.1.1 hI.1.2.1 hI.1.2.2.2.2.2.1 (hI.1.2.2.2.2.2.2.2 _ hw) hd (k hI)
theorem j_ldcw {i : Nat} {v : Int32} (hd : decode y.2.1 pc = .ok (.ldc_w i, 3)) (hw : Cond.constant y.1.cls i v ∈ gw) (k : SJ g y d (pc + 3) L (.int v :: st) mem bc bs Q) : SJ g y d pc L st mem bc bs Q := by
  intro l ad ex dA D A p e s m args below meth c H locs cells slots ls mc ms hI
  exact lv_ldcw hI.1.1 hI.1.2.1 hI.1.2.2.2.2.2.1 (hI.1.2.2.2.2.2.2.2 _ hw) hd (k hI)
theorem j_ldc2 {i : Nat} {v : Int64} (hd : decode y.2.1 pc = .ok (.ldc2_w i, 3)) (hw : Cond.constantLong y.1.cls i v ∈ gw) (k : SJ g y d (pc + 3) L (.long v :: st) mem bc bs Q) : SJ g y d pc L st mem bc bs Q := by
  intro l ad ex dA D A p e s m args below meth c H locs cells slots ls mc ms hI
  exact lv_ldc2 hI.1.1 hI.1.2.1 hI.1.2.2.2.2.2.1 (hI.1.2.2.2.2.2.2.2 _ hw) hd (k hI)
theorem j_iload_n {i : Fin 4} {x : Int32} (hd : decode y.2.1 pc = .ok (.iload_n i, 1)) (hl : L[(i : Nat)]? = some (some (.int x))) (k : SJ g y d (pc + 1) L (.int x :: st) mem bc bs Q) : SJ g y d pc L st mem bc bs Q := by
  intro l ad ex dA D A p e s m args below meth c H locs cells slots ls mc ms hI
  exact lv_iload_n hI.1.1 hI.1.2.1 hd rfl (hI.2.2.2.2.1.2.2 _ _ hl) (k hI)
theorem j_iload {i : Nat} {x : Int32} (hd : decode y.2.1 pc = .ok (.iload i, 2)) (hl : L[i]? = some (some (.int x))) (k : SJ g y d (pc + 2) L (.int x :: st) mem bc bs Q) : SJ g y d pc L st mem bc bs Q := by
  intro l ad ex dA D A p e s m args below meth c H locs cells slots ls mc ms hI
  exact lv_iload hI.1.1 hI.1.2.1 hd (hI.2.2.2.2.1.2.2 _ _ hl) (k hI)
theorem j_lload_n {i : Fin 4} {x : Int64} (hd : decode y.2.1 pc = .ok (.lload_n i, 1)) (hl : L[(i : Nat)]? = some (some (.long x))) (k : SJ g y d (pc + 1) L (.long x :: st) mem bc bs Q) : SJ g y d pc L st mem bc bs Q := by
  intro l ad ex dA D A p e s m args below meth c H locs cells slots ls mc ms hI
  exact lv_lload_n hI.1.1 hI.1.2.1 hd rfl (hI.2.2.2.2.1.2.2 _ _ hl) (k hI)
theorem j_lload {i : Nat} {x : Int64} (hd : decode y.2.1 pc = .ok (.lload i, 2)) (hl : L[i]? = some (some (.long x))) (k : SJ g y d (pc + 2) L (.long x :: st) mem bc bs Q) : SJ g y d pc L st mem bc bs Q := by
  intro l ad ex dA D A p e s m args below meth c H locs cells slots ls mc ms hI
  exact lv_lload hI.1.1 hI.1.2.1 hd (hI.2.2.2.2.1.2.2 _ _ hl) (k hI)
theorem j_aload_n {i : Fin 4} {a : Nat} (hd : decode y.2.1 pc = .ok (.aload_n i, 1)) (hl : L[(i : Nat)]? = some (some (.ref a))) (k : SJ g y d (pc + 1) L (.ref a :: st) mem bc bs Q) : SJ g y d pc L st mem bc bs Q := by
  intro l ad ex dA D A p e s m args below meth c H locs cells slots ls mc ms hI
  exact lv_aload_n hI.1.1 hI.1.2.1 hd rfl (hI.2.2.2.2.1.2.2 _ _ hl) (k hI)
theorem j_aload_nN {i : Fin 4} (hd : decode y.2.1 pc = .ok (.aload_n i, 1)) (hl : L[(i : Nat)]? = some (some .null)) (k : SJ g y d (pc + 1) L (.null :: st) mem bc bs Q) : SJ g y d pc L st mem bc bs Q := by
  intro l ad ex dA D A p e s m args below meth c H locs cells slots ls mc ms hI
  exact lv_aload_nN hI.1.1 hI.1.2.1 hd rfl (hI.2.2.2.2.1.2.2 _ _ hl) (k hI)
theorem j_aload {i : Nat} {a : Nat} (hd : decode y.2.1 pc = .ok (.aload i, 2)) (hl : L[i]? = some (some (.ref a))) (k : SJ g y d (pc + 2) L (.ref a :: st) mem bc bs Q) : SJ g y d pc L st mem bc bs Q := by
  intro l ad ex dA D A p e s m args below meth c H locs cells slots ls mc ms hI
  exact lv_aload hI.1.1 hI.1.2.1 hd (hI.2.2.2.2.1.2.2 _ _ hl) (k hI)
theorem j_aloadN {i : Nat} (hd : decode y.2.1 pc = .ok (.aload i, 2)) (hl : L[i]? = some (some .null)) (k : SJ g y d (pc + 2) L (.null :: st) mem bc bs Q) : SJ g y d pc L st mem bc bs Q := by
  intro l ad ex dA D A p e s m args below meth c H locs cells slots ls mc ms hI
  exact lv_aloadN hI.1.1 hI.1.2.1 hd (hI.2.2.2.2.1.2.2 _ _ hl) (k hI)
theorem j_istore_n {i : Fin 4} {x : Int32} (hd : decode y.2.1 pc = .ok (.istore_n i, 1)) (hn : (i : Nat) < y.2.2.1) (k : SJ g y d (pc + 1) (x_s1 L (i : Nat) (.int x)) st mem bc bs Q) : SJ g y d pc L (.int x :: st) mem bc bs Q := by
  intro l ad ex dA D A p e s m args below meth c H locs cells slots ls mc ms hI
  exact lv_istore_n hI.1.1 hI.1.2.1 hd rfl hI.2.2.2.2.1.has hn rfl (fun ls' h' => k ⟨hI.1, hI.2.1, hI.2.2.1, hI.2.2.2.1, x_L.st1 h', hI.2.2.2.2.2⟩)
theorem j_istore {i : Nat} {x : Int32} (hd : decode y.2.1 pc = .ok (.istore i, 2)) (hn : i < y.2.2.1) (k : SJ g y d (pc + 2) (x_s1 L i (.int x)) st mem bc bs Q) : SJ g y d pc L (.int x :: st) mem bc bs Q := by
  intro l ad ex dA D A p e s m args below meth c H locs cells slots ls mc ms hI
  exact lv_istore hI.1.1 hI.1.2.1 hd hI.2.2.2.2.1.has hn rfl (fun ls' h' => k ⟨hI.1, hI.2.1, hI.2.2.1, hI.2.2.2.1, x_L.st1 h', hI.2.2.2.2.2⟩)
theorem j_lstore_n {i : Fin 4} {x : Int64} (hd : decode y.2.1 pc = .ok (.lstore_n i, 1)) (hn : (i : Nat) + 1 < y.2.2.1) (k : SJ g y d (pc + 1) (x_s2 L (i : Nat) (.long x)) st mem bc bs Q) : SJ g y d pc L (.long x :: st) mem bc bs Q := by
  intro l ad ex dA D A p e s m args below meth c H locs cells slots ls mc ms hI
  exact lv_lstore_n hI.1.1 hI.1.2.1 hd rfl hI.2.2.2.2.1.has hn rfl (fun ls' h' => k ⟨hI.1, hI.2.1, hI.2.2.1, hI.2.2.2.1, x_L.st2 h', hI.2.2.2.2.2⟩)
theorem j_lstore {i : Nat} {x : Int64} (hd : decode y.2.1 pc = .ok (.lstore i, 2)) (hn : i + 1 < y.2.2.1) (k : SJ g y d (pc + 2) (x_s2 L i (.long x)) st mem bc bs Q) : SJ g y d pc L (.long x :: st) mem bc bs Q := by
  intro l ad ex dA D A p e s m args below meth c H locs cells slots ls mc ms hI
  exact lv_lstore hI.1.1 hI.1.2.1 hd hI.2.2.2.2.1.has hn rfl (fun ls' h' => k ⟨hI.1, hI.2.1, hI.2.2.1, hI.2.2.2.1, x_L.st2 h', hI.2.2.2.2.2⟩)
theorem j_astore_n {i : Fin 4} {x : Nat} (hd : decode y.2.1 pc = .ok (.astore_n i, 1)) (hn : (i : Nat) < y.2.2.1) (k : SJ g y d (pc + 1) (x_s1 L (i : Nat) (.ref x)) st mem bc bs Q) : SJ g y d pc L (.ref x :: st) mem bc bs Q := by
  intro l ad ex dA D A p e s m args below meth c H locs cells slots ls mc ms hI
  exact lv_astore_n hI.1.1 hI.1.2.1 hd rfl hI.2.2.2.2.1.has hn rfl (fun ls' h' => k ⟨hI.1, hI.2.1, hI.2.2.1, hI.2.2.2.1, x_L.st1 h', hI.2.2.2.2.2⟩)
theorem j_astore {i : Nat} {x : Nat} (hd : decode y.2.1 pc = .ok (.astore i, 2)) (hn : i < y.2.2.1) (k : SJ g y d (pc + 2) (x_s1 L i (.ref x)) st mem bc bs Q) : SJ g y d pc L (.ref x :: st) mem bc bs Q := by
  intro l ad ex dA D A p e s m args below meth c H locs cells slots ls mc ms hI
  exact lv_astore hI.1.1 hI.1.2.1 hd hI.2.2.2.2.1.has hn rfl (fun ls' h' => k ⟨hI.1, hI.2.1, hI.2.2.1, hI.2.2.2.1, x_L.st1 h', hI.2.2.2.2.2⟩)
theorem j_astore_nN {i : Fin 4} (hd : decode y.2.1 pc = .ok (.astore_n i, 1)) (hn : (i : Nat) < y.2.2.1) (k : SJ g y d (pc + 1) (x_s1 L (i : Nat) (.null)) st mem bc bs Q) : SJ g y d pc L (.null :: st) mem bc bs Q := by
  intro l ad ex dA D A p e s m args below meth c H locs cells slots ls mc ms hI
  exact lv_astore_nN hI.1.1 hI.1.2.1 hd rfl hI.2.2.2.2.1.has hn rfl (fun ls' h' => k ⟨hI.1, hI.2.1, hI.2.2.1, hI.2.2.2.1, x_L.st1 h', hI.2.2.2.2.2⟩)
theorem j_astoreN {i : Nat} (hd : decode y.2.1 pc = .ok (.astore i, 2)) (hn : i < y.2.2.1) (k : SJ g y d (pc + 2) (x_s1 L i (.null)) st mem bc bs Q) : SJ g y d pc L (.null :: st) mem bc bs Q := by
  intro l ad ex dA D A p e s m args below meth c H locs cells slots ls mc ms hI
  exact lv_astoreN hI.1.1 hI.1.2.1 hd hI.2.2.2.2.1.has hn rfl (fun ls' h' => k ⟨hI.1, hI.2.1, hI.2.2.1, hI.2.2.2.1, x_L.st1 h', hI.2.2.2.2.2⟩)
theorem j_iinc {i : Nat} {n : Int} {x v : Int32} (hd : decode y.2.1 pc = .ok (.iinc i n, 3)) (hl : L[i]? = some (some (.int x))) (hv : x + Int32.ofInt n = v) (hn : i < y.2.2.1) (k : SJ g y d (pc + 3) (x_s1 L i (.int v)) st mem bc bs Q) : SJ g y d pc L st mem bc bs Q := by
  intro l ad ex dA D A p e s m args below meth c H locs cells slots ls mc ms hI
  have hin := x_ll_in (ad := ad) (ex := ex) hl
  obtain ⟨kk, hk⟩ := List.getElem?_of_mem hin
  exact lv_iinc hI.1.1 hI.1.2.1 hd hI.2.2.2.2.1.has hk hv hn rfl (fun ls' h' => k ⟨hI.1, hI.2.1, hI.2.2.1, hI.2.2.2.1, x_L.st1 h', hI.2.2.2.2.2⟩)
theorem j_iadd {a b : Int32} (hd : decode y.2.1 pc = .ok (.iadd, 1)) (k : SJ g y d (pc + 1) L (.int (a + b) :: st) mem bc bs Q) : SJ g y d pc L (.int b :: .int a :: st) mem bc bs Q := by
  intro l ad ex dA D A p e s m args below meth c H locs cells slots ls mc ms hI
  exact lv_iadd hI.1.1 hI.1.2.1 hd (k hI)
theorem j_isub {a b : Int32} (hd : decode y.2.1 pc = .ok (.isub, 1)) (k : SJ g y d (pc + 1) L (.int (a - b) :: st) mem bc bs Q) : SJ g y d pc L (.int b :: .int a :: st) mem bc bs Q := by
  intro l ad ex dA D A p e s m args below meth c H locs cells slots ls mc ms hI
  exact lv_isub hI.1.1 hI.1.2.1 hd (k hI)
theorem j_imul {a b : Int32} (hd : decode y.2.1 pc = .ok (.imul, 1)) (k : SJ g y d (pc + 1) L (.int (a * b) :: st) mem bc bs Q) : SJ g y d pc L (.int b :: .int a :: st) mem bc bs Q := by
  intro l ad ex dA D A p e s m args below meth c H locs cells slots ls mc ms hI
  exact lv_imul hI.1.1 hI.1.2.1 hd (k hI)
theorem j_iand {a b : Int32} (hd : decode y.2.1 pc = .ok (.iand, 1)) (k : SJ g y d (pc + 1) L (.int (a &&& b) :: st) mem bc bs Q) : SJ g y d pc L (.int b :: .int a :: st) mem bc bs Q := by
  intro l ad ex dA D A p e s m args below meth c H locs cells slots ls mc ms hI
  exact lv_iand hI.1.1 hI.1.2.1 hd (k hI)
theorem j_ior {a b : Int32} (hd : decode y.2.1 pc = .ok (.ior, 1)) (k : SJ g y d (pc + 1) L (.int (a ||| b) :: st) mem bc bs Q) : SJ g y d pc L (.int b :: .int a :: st) mem bc bs Q := by
  intro l ad ex dA D A p e s m args below meth c H locs cells slots ls mc ms hI
  exact lv_ior hI.1.1 hI.1.2.1 hd (k hI)
theorem j_ixor {a b : Int32} (hd : decode y.2.1 pc = .ok (.ixor, 1)) (k : SJ g y d (pc + 1) L (.int (a ^^^ b) :: st) mem bc bs Q) : SJ g y d pc L (.int b :: .int a :: st) mem bc bs Q := by
  intro l ad ex dA D A p e s m args below meth c H locs cells slots ls mc ms hI
  exact lv_ixor hI.1.1 hI.1.2.1 hd (k hI)
theorem j_ishl {a b : Int32} (hd : decode y.2.1 pc = .ok (.ishl, 1)) (k : SJ g y d (pc + 1) L (.int (a <<< (b &&& 31)) :: st) mem bc bs Q) : SJ g y d pc L (.int b :: .int a :: st) mem bc bs Q := by
  intro l ad ex dA D A p e s m args below meth c H locs cells slots ls mc ms hI
  exact lv_ishl hI.1.1 hI.1.2.1 hd (k hI)
theorem j_ishr {a b : Int32} (hd : decode y.2.1 pc = .ok (.ishr, 1)) (k : SJ g y d (pc + 1) L (.int (a >>> (b &&& 31)) :: st) mem bc bs Q) : SJ g y d pc L (.int b :: .int a :: st) mem bc bs Q := by
  intro l ad ex dA D A p e s m args below meth c H locs cells slots ls mc ms hI
  exact lv_ishr hI.1.1 hI.1.2.1 hd (k hI)
theorem j_idiv {a b : Int32} (hd : decode y.2.1 pc = .ok (.idiv, 1)) (hne : ¬ b = 0) (k : SJ g y d (pc + 1) L (.int (a / b) :: st) mem bc bs Q) : SJ g y d pc L (.int b :: .int a :: st) mem bc bs Q := by
  intro l ad ex dA D A p e s m args below meth c H locs cells slots ls mc ms hI
  exact lv_idiv hI.1.1 hI.1.2.1 hd hne (k hI)
theorem j_irem {a b : Int32} (hd : decode y.2.1 pc = .ok (.irem, 1)) (hne : ¬ b = 0) (k : SJ g y d (pc + 1) L (.int (a - a / b * b) :: st) mem bc bs Q) : SJ g y d pc L (.int b :: .int a :: st) mem bc bs Q := by
  intro l ad ex dA D A p e s m args below meth c H locs cells slots ls mc ms hI
  exact lv_irem hI.1.1 hI.1.2.1 hd hne (k hI)
theorem j_ineg {a : Int32} (hd : decode y.2.1 pc = .ok (.ineg, 1)) (k : SJ g y d (pc + 1) L (.int (0 - a) :: st) mem bc bs Q) : SJ g y d pc L (.int a :: st) mem bc bs Q := by
  intro l ad ex dA D A p e s m args below meth c H locs cells slots ls mc ms hI
  exact lv_ineg hI.1.1 hI.1.2.1 hd (k hI)
theorem j_iushr {a b : Int32} (hd : decode y.2.1 pc = .ok (.iushr, 1)) (k : SJ g y d (pc + 1) L (.int (a.toUInt32 >>> (b.toUInt32 &&& Int32.toUInt32 31)).toInt32 :: st) mem bc bs Q) : SJ g y d pc L (.int b :: .int a :: st) mem bc bs Q := by
  intro l ad ex dA D A p e s m args below meth c H locs cells slots ls mc ms hI
  exact lv_iushr hI.1.1 hI.1.2.1 hd rfl (k hI)
theorem j_ladd {a b : Int64} (hd : decode y.2.1 pc = .ok (.ladd, 1)) (k : SJ g y d (pc + 1) L (.long (a + b) :: st) mem bc bs Q) : SJ g y d pc L (.long b :: .long a :: st) mem bc bs Q := by
  intro l ad ex dA D A p e s m args below meth c H locs cells slots ls mc ms hI
  exact lv_ladd hI.1.1 hI.1.2.1 hd (k hI)
theorem j_lsub {a b : Int64} (hd : decode y.2.1 pc = .ok (.lsub, 1)) (k : SJ g y d (pc + 1) L (.long (a - b) :: st) mem bc bs Q) : SJ g y d pc L (.long b :: .long a :: st) mem bc bs Q := by
  intro l ad ex dA D A p e s m args below meth c H locs cells slots ls mc ms hI
  exact lv_lsub hI.1.1 hI.1.2.1 hd (k hI)
theorem j_lmul {a b : Int64} (hd : decode y.2.1 pc = .ok (.lmul, 1)) (k : SJ g y d (pc + 1) L (.long (a * b) :: st) mem bc bs Q) : SJ g y d pc L (.long b :: .long a :: st) mem bc bs Q := by
  intro l ad ex dA D A p e s m args below meth c H locs cells slots ls mc ms hI
  exact lv_lmul hI.1.1 hI.1.2.1 hd (k hI)
theorem j_land {a b : Int64} (hd : decode y.2.1 pc = .ok (.land, 1)) (k : SJ g y d (pc + 1) L (.long (a &&& b) :: st) mem bc bs Q) : SJ g y d pc L (.long b :: .long a :: st) mem bc bs Q := by
  intro l ad ex dA D A p e s m args below meth c H locs cells slots ls mc ms hI
  exact lv_land hI.1.1 hI.1.2.1 hd (k hI)
theorem j_lor {a b : Int64} (hd : decode y.2.1 pc = .ok (.lor, 1)) (k : SJ g y d (pc + 1) L (.long (a ||| b) :: st) mem bc bs Q) : SJ g y d pc L (.long b :: .long a :: st) mem bc bs Q := by
  intro l ad ex dA D A p e s m args below meth c H locs cells slots ls mc ms hI
  exact lv_lor hI.1.1 hI.1.2.1 hd (k hI)
theorem j_ldiv {a b : Int64} (hd : decode y.2.1 pc = .ok (.ldiv, 1)) (hne : ¬ b = 0) (k : SJ g y d (pc + 1) L (.long (a / b) :: st) mem bc bs Q) : SJ g y d pc L (.long b :: .long a :: st) mem bc bs Q := by
  intro l ad ex dA D A p e s m args below meth c H locs cells slots ls mc ms hI
  exact lv_ldiv hI.1.1 hI.1.2.1 hd hne (k hI)
theorem j_lrem {a b : Int64} (hd : decode y.2.1 pc = .ok (.lrem, 1)) (hne : ¬ b = 0) (k : SJ g y d (pc + 1) L (.long (a - a / b * b) :: st) mem bc bs Q) : SJ g y d pc L (.long b :: .long a :: st) mem bc bs Q := by
  intro l ad ex dA D A p e s m args below meth c H locs cells slots ls mc ms hI
  exact lv_lrem hI.1.1 hI.1.2.1 hd hne (k hI)
theorem j_lshl {a : Int64} {b : Int32} (hd : decode y.2.1 pc = .ok (.lshl, 1)) (k : SJ g y d (pc + 1) L (.long (a <<< (b.toInt64 &&& 63)) :: st) mem bc bs Q) : SJ g y d pc L (.int b :: .long a :: st) mem bc bs Q := by
  intro l ad ex dA D A p e s m args below meth c H locs cells slots ls mc ms hI
  exact lv_lshl hI.1.1 hI.1.2.1 hd rfl (k hI)
theorem j_lcmp {a b : Int64} (hd : decode y.2.1 pc = .ok (.lcmp, 1)) (k : SJ g y d (pc + 1) L (.int (lg_cmp a b) :: st) mem bc bs Q) : SJ g y d pc L (.long b :: .long a :: st) mem bc bs Q := by
  intro l ad ex dA D A p e s m args below meth c H locs cells slots ls mc ms hI
  exact W.lcmp hI.1.1 hI.1.2.1 hd (k hI)
theorem j_i2l {a : Int32} (hd : decode y.2.1 pc = .ok (.i2l, 1)) (k : SJ g y d (pc + 1) L (.long a.toInt64 :: st) mem bc bs Q) : SJ g y d pc L (.int a :: st) mem bc bs Q := by
  intro l ad ex dA D A p e s m args below meth c H locs cells slots ls mc ms hI
  exact lv_i2l hI.1.1 hI.1.2.1 hd rfl (k hI)
theorem j_l2i {a : Int64} (hd : decode y.2.1 pc = .ok (.l2i, 1)) (k : SJ g y d (pc + 1) L (.int a.toInt32 :: st) mem bc bs Q) : SJ g y d pc L (.long a :: st) mem bc bs Q := by
  intro l ad ex dA D A p e s m args below meth c H locs cells slots ls mc ms hI
  exact lv_l2i hI.1.1 hI.1.2.1 hd rfl (k hI)
theorem j_i2b {a : Int32} (hd : decode y.2.1 pc = .ok (.i2b, 1)) (k : SJ g y d (pc + 1) L (.int a.toInt8.toInt32 :: st) mem bc bs Q) : SJ g y d pc L (.int a :: st) mem bc bs Q := by
  intro l ad ex dA D A p e s m args below meth c H locs cells slots ls mc ms hI
  exact lv_i2b hI.1.1 hI.1.2.1 hd rfl (k hI)
theorem j_dup {v : Value} (hd : decode y.2.1 pc = .ok (.dup, 1)) (hc : v.category = 1) (k : SJ g y d (pc + 1) L (v :: v :: st) mem bc bs Q) : SJ g y d pc L (v :: st) mem bc bs Q := by
  intro l ad ex dA D A p e s m args below meth c H locs cells slots ls mc ms hI
  exact lv_dup hI.1.1 hI.1.2.1 hd (by rw [x_v_cat]; exact hc) (k hI)
theorem j_pop {v : Value} (hd : decode y.2.1 pc = .ok (.pop, 1)) (hc : v.category = 1) (k : SJ g y d (pc + 1) L (st) mem bc bs Q) : SJ g y d pc L (v :: st) mem bc bs Q := by
  intro l ad ex dA D A p e s m args below meth c H locs cells slots ls mc ms hI
  exact lv_pop hI.1.1 hI.1.2.1 hd (by rw [x_v_cat]; exact hc) (k hI)
theorem j_dup2 {v w : Value} (hd : decode y.2.1 pc = .ok (.dup2, 1)) (hc : v.category = 1) (hc2 : w.category = 1) (k : SJ g y d (pc + 1) L (v :: w :: v :: w :: st) mem bc bs Q) : SJ g y d pc L (v :: w :: st) mem bc bs Q := by
  intro l ad ex dA D A p e s m args below meth c H locs cells slots ls mc ms hI
  exact lv_dup2_11 hI.1.1 hI.1.2.1 hd (by rw [x_v_cat]; exact hc) (by rw [x_v_cat]; exact hc2) (k hI)
theorem j_if_eq {x : Int32} {o : Int} {t : Nat} (hd : decode y.2.1 pc = .ok (.ifCond .eq o, 3)) (ht : (pc : Int) + o = (t : Int)) (kt : x = 0 → SJ g y d t L st mem bc bs Q) (kf : ¬ (x = 0) → SJ g y d (pc + 3) L st mem bc bs Q) : SJ g y d pc L (.int x :: st) mem bc bs Q := by
  intro l ad ex dA D A p e s m args below meth c H locs cells slots ls mc ms hI
  exact lv_if_eq hI.1.1 hI.1.2.1 hd ht (fun h => kt h hI) (fun h => kf h hI)
theorem j_if_ne {x : Int32} {o : Int} {t : Nat} (hd : decode y.2.1 pc = .ok (.ifCond .ne o, 3)) (ht : (pc : Int) + o = (t : Int)) (kt : ¬ x = 0 → SJ g y d t L st mem bc bs Q) (kf : x = 0 → SJ g y d (pc + 3) L st mem bc bs Q) : SJ g y d pc L (.int x :: st) mem bc bs Q := by
  intro l ad ex dA D A p e s m args below meth c H locs cells slots ls mc ms hI
  exact lv_if_ne hI.1.1 hI.1.2.1 hd ht (fun h => kt h hI) (fun h => kf h hI)
theorem j_if_lt {x : Int32} {o : Int} {t : Nat} (hd : decode y.2.1 pc = .ok (.ifCond .lt o, 3)) (ht : (pc : Int) + o = (t : Int)) (kt : x < 0 → SJ g y d t L st mem bc bs Q) (kf : ¬ (x < 0) → SJ g y d (pc + 3) L st mem bc bs Q) : SJ g y d pc L (.int x :: st) mem bc bs Q := by
  intro l ad ex dA D A p e s m args below meth c H locs cells slots ls mc ms hI
  exact lv_if_lt hI.1.1 hI.1.2.1 hd ht (fun h => kt h hI) (fun h => kf h hI)
theorem j_if_ge {x : Int32} {o : Int} {t : Nat} (hd : decode y.2.1 pc = .ok (.ifCond .ge o, 3)) (ht : (pc : Int) + o = (t : Int)) (kt : 0 ≤ x → SJ g y d t L st mem bc bs Q) (kf : ¬ (0 ≤ x) → SJ g y d (pc + 3) L st mem bc bs Q) : SJ g y d pc L (.int x :: st) mem bc bs Q := by
  intro l ad ex dA D A p e s m args below meth c H locs cells slots ls mc ms hI
  exact lv_if_ge hI.1.1 hI.1.2.1 hd ht (fun h => kt h hI) (fun h => kf h hI)
theorem j_if_gt {x : Int32} {o : Int} {t : Nat} (hd : decode y.2.1 pc = .ok (.ifCond .gt o, 3)) (ht : (pc : Int) + o = (t : Int)) (kt : 0 < x → SJ g y d t L st mem bc bs Q) (kf : ¬ (0 < x) → SJ g y d (pc + 3) L st mem bc bs Q) : SJ g y d pc L (.int x :: st) mem bc bs Q := by
  intro l ad ex dA D A p e s m args below meth c H locs cells slots ls mc ms hI
  exact lv_if_gt hI.1.1 hI.1.2.1 hd ht (fun h => kt h hI) (fun h => kf h hI)
theorem j_if_le {x : Int32} {o : Int} {t : Nat} (hd : decode y.2.1 pc = .ok (.ifCond .le o, 3)) (ht : (pc : Int) + o = (t : Int)) (kt : x ≤ 0 → SJ g y d t L st mem bc bs Q) (kf : ¬ (x ≤ 0) → SJ g y d (pc + 3) L st mem bc bs Q) : SJ g y d pc L (.int x :: st) mem bc bs Q := by
  intro l ad ex dA D A p e s m args below meth c H locs cells slots ls mc ms hI
  exact lv_if_le hI.1.1 hI.1.2.1 hd ht (fun h => kt h hI) (fun h => kf h hI)
theorem j_icmp_eq {x z : Int32} {o : Int} {t : Nat} (hd : decode y.2.1 pc = .ok (.if_icmp .eq o, 3)) (ht : (pc : Int) + o = (t : Int)) (kt : x = z → SJ g y d t L st mem bc bs Q) (kf : ¬ (x = z) → SJ g y d (pc + 3) L st mem bc bs Q) : SJ g y d pc L (.int z :: .int x :: st) mem bc bs Q := by
  intro l ad ex dA D A p e s m args below meth c H locs cells slots ls mc ms hI
  exact lv_icmp_eq hI.1.1 hI.1.2.1 hd ht (fun h => kt h hI) (fun h => kf h hI)
theorem j_icmp_ne {x z : Int32} {o : Int} {t : Nat} (hd : decode y.2.1 pc = .ok (.if_icmp .ne o, 3)) (ht : (pc : Int) + o = (t : Int)) (kt : ¬ x = z → SJ g y d t L st mem bc bs Q) (kf : x = z → SJ g y d (pc + 3) L st mem bc bs Q) : SJ g y d pc L (.int z :: .int x :: st) mem bc bs Q := by
  intro l ad ex dA D A p e s m args below meth c H locs cells slots ls mc ms hI
  exact lv_icmp_ne hI.1.1 hI.1.2.1 hd ht (fun h => kt h hI) (fun h => kf h hI)
theorem j_icmp_lt {x z : Int32} {o : Int} {t : Nat} (hd : decode y.2.1 pc = .ok (.if_icmp .lt o, 3)) (ht : (pc : Int) + o = (t : Int)) (kt : x < z → SJ g y d t L st mem bc bs Q) (kf : ¬ (x < z) → SJ g y d (pc + 3) L st mem bc bs Q) : SJ g y d pc L (.int z :: .int x :: st) mem bc bs Q := by
  intro l ad ex dA D A p e s m args below meth c H locs cells slots ls mc ms hI
  exact lv_icmp_lt hI.1.1 hI.1.2.1 hd ht (fun h => kt h hI) (fun h => kf h hI)
theorem j_icmp_ge {x z : Int32} {o : Int} {t : Nat} (hd : decode y.2.1 pc = .ok (.if_icmp .ge o, 3)) (ht : (pc : Int) + o = (t : Int)) (kt : z ≤ x → SJ g y d t L st mem bc bs Q) (kf : ¬ (z ≤ x) → SJ g y d (pc + 3) L st mem bc bs Q) : SJ g y d pc L (.int z :: .int x :: st) mem bc bs Q := by
  intro l ad ex dA D A p e s m args below meth c H locs cells slots ls mc ms hI
  exact lv_icmp_ge hI.1.1 hI.1.2.1 hd ht (fun h => kt h hI) (fun h => kf h hI)
theorem j_icmp_gt {x z : Int32} {o : Int} {t : Nat} (hd : decode y.2.1 pc = .ok (.if_icmp .gt o, 3)) (ht : (pc : Int) + o = (t : Int)) (kt : z < x → SJ g y d t L st mem bc bs Q) (kf : ¬ (z < x) → SJ g y d (pc + 3) L st mem bc bs Q) : SJ g y d pc L (.int z :: .int x :: st) mem bc bs Q := by
  intro l ad ex dA D A p e s m args below meth c H locs cells slots ls mc ms hI
  exact lv_icmp_gt hI.1.1 hI.1.2.1 hd ht (fun h => kt h hI) (fun h => kf h hI)
theorem j_icmp_le {x z : Int32} {o : Int} {t : Nat} (hd : decode y.2.1 pc = .ok (.if_icmp .le o, 3)) (ht : (pc : Int) + o = (t : Int)) (kt : x ≤ z → SJ g y d t L st mem bc bs Q) (kf : ¬ (x ≤ z) → SJ g y d (pc + 3) L st mem bc bs Q) : SJ g y d pc L (.int z :: .int x :: st) mem bc bs Q := by
  intro l ad ex dA D A p e s m args below meth c H locs cells slots ls mc ms hI
  exact lv_icmp_le hI.1.1 hI.1.2.1 hd ht (fun h => kt h hI) (fun h => kf h hI)
theorem j_goto {o : Int} {t : Nat} (hd : decode y.2.1 pc = .ok (.goto o, 3)) (ht : (pc : Int) + o = (t : Int)) (k : SJ g y d t L st mem bc bs Q) : SJ g y d pc L st mem bc bs Q := by
  intro l ad ex dA D A p e s m args below meth c H locs cells slots ls mc ms hI
  exact lv_goto hI.1.1 hI.1.2.1 hd ht (k hI)
theorem j_nonnull {o : Int} {t a : Nat} (hd : decode y.2.1 pc = .ok (.ifnonnull o, 3)) (ht : (pc : Int) + o = (t : Int)) (k : SJ g y d t L st mem bc bs Q) : SJ g y d pc L (.ref a :: st) mem bc bs Q := by
  intro l ad ex dA D A p e s m args below meth c H locs cells slots ls mc ms hI
  exact lv_ifnonnull hI.1.1 hI.1.2.1 hd ht (k hI)
theorem j_nonnullN {o : Int} (hd : decode y.2.1 pc = .ok (.ifnonnull o, 3)) (k : SJ g y d (pc + 3) L st mem bc bs Q) : SJ g y d pc L (.null :: st) mem bc bs Q := by
  intro l ad ex dA D A p e s m args below meth c H locs cells slots ls mc ms hI
  exact lv_ifnonnullN hI.1.1 hI.1.2.1 hd (k hI)
theorem j_tabIn {df lo hi o : Int} {os : Array Int} {n t : Nat} {x : Int32} (hd : decode y.2.1 pc = .ok (.tableswitch df lo hi os, n)) (h1 : ¬ x.toInt < lo) (h2 : ¬ hi < x.toInt) (ho : os[(x.toInt - lo).toNat]? = some o) (ht : (pc : Int) + o = (t : Int)) (k : SJ g y d t L st mem bc bs Q) : SJ g y d pc L (.int x :: st) mem bc bs Q := by
  intro l ad ex dA D A p e s m args below meth c H locs cells slots ls mc ms hI
  exact lv_tableIn hI.1.1 hI.1.2.1 hd h1 h2 ho ht (k hI)
theorem j_tabOut {df lo hi : Int} {os : Array Int} {n t : Nat} {x : Int32} (hd : decode y.2.1 pc = .ok (.tableswitch df lo hi os, n)) (h : x.toInt < lo ∨ hi < x.toInt) (ht : (pc : Int) + df = (t : Int)) (k : SJ g y d t L st mem bc bs Q) : SJ g y d pc L (.int x :: st) mem bc bs Q := by
  intro l ad ex dA D A p e s m args below meth c H locs cells slots ls mc ms hI
  exact lv_tableOut hI.1.1 hI.1.2.1 hd h ht (k hI)
theorem j_look {df o : Int} {ps : Array (Int × Int)} {n t : Nat} {x : Int32} (hd : decode y.2.1 pc = .ok (.lookupswitch df ps, n)) (hp : (ps.toList.zip (ps.toList.drop 1)).all (fun (a, next) => a.1 < next.1) = true) (ho : Op.lookupswitch.offset ps.toList df x.toInt = o) (ht : (pc : Int) + o = (t : Int)) (k : SJ g y d t L st mem bc bs Q) : SJ g y d pc L (.int x :: st) mem bc bs Q := by
  intro l ad ex dA D A p e s m args below meth c H locs cells slots ls mc ms hI
  exact lv_lookup hI.1.1 hI.1.2.1 hd hp ho ht (k hI)
theorem j_ireturn {v : Int32} (hr : y.2.2.2 = some .int) (hd : decode y.2.1 pc = .ok (.ireturn, 1)) (hq : Q mem (some (.int v))) : SJ g y d pc L [.int v] mem bc bs Q := by
  intro l ad ex dA D A p e s m args below meth c H locs cells slots ls mc ms hI
  have hlocks := hI.1.2.2.2.1
  refine W.widen (k := mc) (n := ms) (Nat.le_trans (Nat.le_add_right _ _) hI.2.2.2.2.2.1) (Nat.le_trans (Nat.le_add_right _ _) hI.2.2.2.2.2.2) ?_
  exact W.iret hI.1.1 hI.1.2.1 (hI.1.2.2.1.trans hr) (fun t ht hW => ⟨⟨mem, some (.int v), rfl, hq, by rw [ht]; exact hI.2.2.1⟩, hI.2.2.2.1.F ht⟩) hI.2.2.2.1.2.2 hd hlocks
theorem j_zreturn {v : Int32} {ty : FieldType} (hr : y.2.2.2 = some ty) (hn : narrow ty (.int v) = .int v) (hd : decode y.2.1 pc = .ok (.ireturn, 1)) (hq : Q mem (some (.int v))) : SJ g y d pc L [.int v] mem bc bs Q := by
  intro l ad ex dA D A p e s m args below meth c H locs cells slots ls mc ms hI
  have hlocks := hI.1.2.2.2.1
  refine W.widen (k := mc) (n := ms) (Nat.le_trans (Nat.le_add_right _ _) hI.2.2.2.2.2.1) (Nat.le_trans (Nat.le_add_right _ _) hI.2.2.2.2.2.2) ?_
  exact W.zret hI.1.1 hI.1.2.1 (hI.1.2.2.1.trans hr) hn (fun t ht hW => ⟨⟨mem, some (.int v), rfl, hq, by rw [ht]; exact hI.2.2.1⟩, hI.2.2.2.1.F ht⟩) hI.2.2.2.1.2.2 hd hlocks
theorem j_lreturn {v : Int64} (hr : y.2.2.2 = some .long) (hd : decode y.2.1 pc = .ok (.lreturn, 1)) (hq : Q mem (some (.long v))) : SJ g y d pc L [.long v] mem bc bs Q := by
  intro l ad ex dA D A p e s m args below meth c H locs cells slots ls mc ms hI
  have hlocks := hI.1.2.2.2.1
  refine W.widen (k := mc) (n := ms) (Nat.le_trans (Nat.le_add_right _ _) hI.2.2.2.2.2.1) (Nat.le_trans (Nat.le_add_right _ _) hI.2.2.2.2.2.2) ?_
  exact W.lret hI.1.1 hI.1.2.1 (hI.1.2.2.1.trans hr) (fun t ht hW => ⟨⟨mem, some (.long v), rfl, hq, by rw [ht]; exact hI.2.2.1⟩, hI.2.2.2.1.F ht⟩) hI.2.2.2.1.2.2 hd hlocks
theorem j_return (hr : y.2.2.2 = none) (hd : decode y.2.1 pc = .ok (.return_, 1)) (hq : Q mem none) : SJ g y d pc L [] mem bc bs Q := by
  intro l ad ex dA D A p e s m args below meth c H locs cells slots ls mc ms hI
  have hlocks := hI.1.2.2.2.1
  refine W.widen (k := mc) (n := ms) (Nat.le_trans (Nat.le_add_right _ _) hI.2.2.2.2.2.1) (Nat.le_trans (Nat.le_add_right _ _) hI.2.2.2.2.2.2) ?_
  exact W.vret hI.1.1 hI.1.2.1 (hI.1.2.2.1.trans hr) (fun t ht hW => ⟨⟨mem, none, rfl, hq, by rw [ht]; exact hI.2.2.1⟩, hI.2.2.2.1.F ht⟩) hI.2.2.2.1.2.2 hd hlocks
theorem j_areturn {v : Value} {rt : FieldType} (hr : y.2.2.2 = some rt) (hrt : (∃ n, rt = .object n) ∨ ∃ t, rt = .array t) (hv : v = .null ∨ ∃ a, v = .ref a) (hd : decode y.2.1 pc = .ok (.areturn, 1)) (hq : Q mem (some v)) : SJ g y d pc L [v] mem bc bs Q := by
  intro l ad ex dA D A p e s m args below meth c H locs cells slots ls mc ms hI
  have hlocks := hI.1.2.2.2.1
  refine W.widen (k := mc) (n := ms) (Nat.le_trans (Nat.le_add_right _ _) hI.2.2.2.2.2.1) (Nat.le_trans (Nat.le_add_right _ _) hI.2.2.2.2.2.2) ?_
  exact W.aret hI.1.1 hI.1.2.1 (hI.1.2.2.1.trans hr) hrt (by rcases hv with rfl | ⟨a, rfl⟩; exact Or.inl rfl; exact Or.inr ⟨_, rfl⟩) (fun t ht hW => ⟨⟨mem, some v, rfl, hq, by rw [ht]; exact hI.2.2.1⟩, hI.2.2.2.1.F ht⟩) hI.2.2.2.1.2.2 hd hlocks
end SJR
