/-! ROWS FOR WHAT MAKES THE OBJECTS: calls of nest mates, the class's one text, clones, arrays of arrays. -/
section SJB
variable {g : Bool} {y : xY} {d pc : Nat} {L : List (Option Value)} {st : List Value} {mem : List xM} {bc bs : Nat} {Q : List xM → Option Value → Prop}
def x_cn (own : String) (idx : Nat) (y2 : xY) (n : Nat) : Prop := Cond.code y2.1 y2.2.1 y2.2.2.1 y2.2.2.2 ∈ gw ∧ Cond.initialized y2.1.cls ∈ gw ∧ (own, idx, y2.1, "BracketHouse") ∈ x_nM ∧ (y2.1.cls ≠ "java/lang/invoke/MethodHandle" ∧ y2.1.cls ≠ "java/lang/invoke/VarHandle" ∧ (parseMethodDescriptor y2.1.desc).map (fun d => d.parameters.length) = some n) ∧ y2.2.2.1 ≤ 40 ∧ y2.1.name = "<init>" ∧ y2.2.2.2 = none ∧ Cond.instanceMethod y2.1 ∈ gw
theorem j_callN {y2 : xY} {i idx n mc2 ms2 : Nat} {as : List Value} {st0 : List Value} (hd : decode y.2.1 pc = .ok (.invokespecial idx, 3)) (hc : x_cn y.1.cls idx y2 n) (hst : st0 = as.reverse ++ .ref i :: st) (hn : as.length = n) (hcat : (st.map fun v => v.category).sum ≤ 8) (hb1 : mc2 ≤ bc) (hb2 : ms2 ≤ bs)
    (kk : CT g y2 d (.ref i :: as) mem mc2 ms2 (fun mem2 r => SJ g y (d + 1) (pc + 3) L (r.toList ++ st) mem2 (bc - mc2) (bs - ms2) Q)) : SJ g y (d + 1) pc L st0 mem bc bs Q := by
  intro l ad ex dA D A p e s m args below meth c H locs cells slots ls mc ms hI
  subst hst
  have hts := hI.1.2.2.2.2.2.2.2
  have hc1 := hI.2.2.2.2.2.1
  have hc2 := hI.2.2.2.2.2.2
  obtain ⟨k1, k2, k3, k4, k5, k6, k7, k8⟩ := hc
  have hcats : ((st.map (x_v ad ex)).map fun v => v.category).sum ≤ 8 := by
    rw [List.map_map, show ((fun v : Value => v.category) ∘ x_v ad ex) = (fun v : Value => v.category) from funext fun v => x_v_cat v]
    exact hcat
  have hcb : va_CN (x_rm (d + 1) mc ms) s args y.1.cls idx y2.1 "BracketHouse" y2.2.1 y2.2.2.1 y2.2.2.2 (x_ws y2) (x_rm d mc2 ms2) mc2 ms2 n := va_cnB n hts (x_good y2 k1) rfl rfl rfl (hI.2.1.2.2.1.1 _ k3) (hts _ k2) k4 ⟨Nat.le_refl _, by show 8 + (y2.2.2.1 + 11) + 64 * d ≤ 64 * (d + 1); omega⟩
  rw [k7] at hcb
  refine x_run (rest := st) hI hb1 hb2 (va_runIN (b := ad i) (As := as.map (x_v ad ex)) (nL := y.2.2.1) (Ts := gw) (own := y.1.cls) ⟨hI.1.1, hI.1.2.1, hI.1.2.2.2.2.1, hI.1.2.2.2.2.2.1, hts⟩ (kk (l := l) (ad := ad) (ex := ex) (dA := dA) (D := D) (A := A)) ⟨hcb, k6, hts _ k8⟩ ⟨x_blind, fun U hU hW => x_pre hI U hU hW⟩ rfl (by rw [List.length_map]; exact hn) hI.2.2.2.2.1.1 (by simp [List.map_append, List.map_reverse, x_v]) (lv_room hcats) hd ⟨?_, ?_⟩) (fun mem2 r h => h)
  · show cells + mc2 ≤ mc
    omega
  · show slots + ms2 ≤ ms
    omega
theorem j_getsN (hy : y.1.cls = "BracketHouse$State") (hd : decode y.2.1 pc = .ok (.getstatic 35, 3)) (kk : SJ g y d (pc + 3) L (.retAddr 2 :: st) mem bc bs Q) : SJ g y d pc L st mem bc bs Q := by
  intro l ad ex dA D A p e s m args below meth c H locs cells slots ls mc ms hI
  exact va_getsN hI.1.1 hI.1.2.1 (hI.2.1.2.1.1 2 (by decide)).1 hI.2.2.2.1 (hI.1.2.2.2.2.2.1) (by rw [hy]; exact va_Nw.use rfl hI.2.1.2.2.1.2) (fun _ h => h) hd (kk hI)
theorem j_ldcS (hy : y.1.cls = "BracketHouse$Tape") (hd : decode y.2.1 pc = .ok (.ldc 31, 2)) (kk : SJ g y d (pc + 2) L (.retAddr 4 :: st) mem bc bs Q) : SJ g y d pc L st mem bc bs Q := by
  intro l ad ex dA D A p e s m args below meth c H locs cells slots ls mc ms hI
  exact va_ldcS hI.1.1 hI.1.2.1 (own := "BracketHouse$Tape") (by rw [← hy]; exact hI.1.2.2.2.2.2.1) hI.2.1.2.1.2.2.1 hd (kk hI)
theorem j_sgetC {idx : Nat} {ref : String} (hr : ref = "java/lang/String") (hd : decode y.2.1 pc = .ok (.getfield idx, 3)) (hw : Cond.fieldLink y.1.cls idx ref "coder" "B" ∈ gw) (kk : SJ g y d (pc + 3) L (.int 0 :: st) mem bc bs Q) : SJ g y d pc L (.retAddr 4 :: st) mem bc bs Q := by
  intro l ad ex dA D A p e s m args below meth c H locs cells slots ls mc ms hI
  subst hr
  exact vk_getf hI.1.1 hI.1.2.1 hI.2.1.2.1.2.2.2.2.1 hI.2.2.2.1 hI.1.2.2.2.2.2.1 (hI.1.2.2.2.2.2.2.2 _ hw) (fun _ h => h) hd (kk hI)
theorem j_sgetV {idx : Nat} {ref : String} (hr : ref = "java/lang/String") (hd : decode y.2.1 pc = .ok (.getfield idx, 3)) (hw : Cond.fieldLink y.1.cls idx ref "value" "[B" ∈ gw) (kk : SJ g y d (pc + 3) L (.retAddr 5 :: st) mem bc bs Q) : SJ g y d pc L (.retAddr 4 :: st) mem bc bs Q := by
  intro l ad ex dA D A p e s m args below meth c H locs cells slots ls mc ms hI
  subst hr
  exact vk_getf hI.1.1 hI.1.2.1 hI.2.1.2.1.2.2.2.2.2.1 hI.2.2.2.1 hI.1.2.2.2.2.2.1 (hI.1.2.2.2.2.2.2.2 _ hw) (fun _ h => h) hd (kk hI)
theorem j_sgetZ {idx : Nat} {ref : String} (hr : ref = "java/lang/String") (hd : decode y.2.1 pc = .ok (.getstatic idx, 3)) (hw : Cond.fieldLink y.1.cls idx ref "COMPACT_STRINGS" "Z" ∈ gw) (kk : SJ g y d (pc + 3) L (.int 1 :: st) mem bc bs Q) : SJ g y d pc L st mem bc bs Q := by
  intro l ad ex dA D A p e s m args below meth c H locs cells slots ls mc ms hI
  subst hr
  exact va_gets hI.1.1 hI.1.2.1 hI.2.1.2.1.2.2.2.2.2.2.2.1 hI.2.2.2.1 hI.1.2.2.2.2.2.1 (hI.1.2.2.2.2.2.2.2 _ hw) (fun _ h => h) hd (kk hI)
theorem j_slen (hd : decode y.2.1 pc = .ok (.arraylength, 1)) (kk : SJ g y d (pc + 1) L (.int 137 :: st) mem bc bs Q) : SJ g y d pc L (.retAddr 5 :: st) mem bc bs Q := by
  intro l ad ex dA D A p e s m args below meth c H locs cells slots ls mc ms hI
  exact va_tlen hI.1.1 hI.1.2.1 hI.2.1.2.1.2.2.2.2.2.2.1 hI.2.2.2.1 (by decide) hd (kk hI)
theorem j_sbld {j : Int32} {v : Int32} (hd : decode y.2.1 pc = .ok (.baload, 1)) (hj : vp_in j 137) (hv : x_tb.getD j.toNatClampNeg 0 = v) (kk : SJ g y d (pc + 1) L (.int v :: st) mem bc bs Q) : SJ g y d pc L (.int j :: .retAddr 5 :: st) mem bc bs Q := by
  intro l ad ex dA D A p e s m args below meth c H locs cells slots ls mc ms hI
  subst hv
  exact va_tb hI.1.1 hI.1.2.1 hI.2.1.2.1.2.2.2.2.2.2.1 hI.2.2.2.1 hj rfl hd (kk hI)
theorem j_callO {y2 : xY} {idx n mc2 ms2 : Nat} {as : List Value} {st0 : List Value} (hd : decode y.2.1 pc = .ok (.invokevirtual idx, 3)) (hc : x_cv y.1.cls idx y2 n) (hci : y2.1.cls = "java/lang/String") (hst : st0 = as.reverse ++ .retAddr 4 :: st) (hn : as.length = n) (hcat : (st.map fun v => v.category).sum ≤ 8) (hb1 : mc2 ≤ bc) (hb2 : ms2 ≤ bs)
    (kk : CT g y2 d (.retAddr 4 :: as) mem mc2 ms2 (fun mem2 r => SJ g y (d + 1) (pc + 3) L (r.toList ++ st) mem2 (bc - mc2) (bs - ms2) Q)) : SJ g y (d + 1) pc L st0 mem bc bs Q := by
  intro l ad ex dA D A p e s m args below meth c H locs cells slots ls mc ms hI
  subst hst
  have hts := hI.1.2.2.2.2.2.2.2
  have hc1 := hI.2.2.2.2.2.1
  have hc2 := hI.2.2.2.2.2.2
  have hcats : ((st.map (x_v ad ex)).map fun v => v.category).sum ≤ 8 := by
    rw [List.map_map, show ((fun v : Value => v.category) ∘ x_v ad ex) = (fun v : Value => v.category) from funext fun v => x_v_cat v]
    exact hcat
  have hrv : ∃ cell : Cell, H[ex 4]? = some cell ∧ cell.vm.isStatics = false ∧ s.vm.findClass y2.1.cls = some cell.cls := by
    rw [hci]
    obtain ⟨cell, o1, o2, o3, o4⟩ := va_O.kept hI.2.1.2.1.2.2.2.1 hI.2.2.2.1.2.1
    exact ⟨cell, o1, o2, o3⟩
  refine x_run (rest := st) hI hb1 hb2 (va_runV (C := y2.1.cls) (b := ex 4) (As := as.map (x_v ad ex)) (nL := y.2.2.1) (Ts := gw) (own := y.1.cls) ⟨hI.1.1, hI.1.2.1, hI.1.2.2.2.2.1, hI.1.2.2.2.2.2.1, hts⟩ (kk (l := l) (ad := ad) (ex := ex) (dA := dA) (D := D) (A := A)) ⟨x_callB hc.1 hts, hts _ hc.2.1, hts _ hc.2.2⟩ ⟨x_blind, hrv, fun U hU hW => x_pre hI U hU hW⟩ rfl (by rw [List.length_map]; exact hn) hI.2.2.2.2.1.1 (by simp [List.map_append, List.map_reverse, x_v]) (lv_room hcats) hd ⟨?_, ?_⟩) (fun mem2 r h => h)
  · show cells + mc2 ≤ mc
    omega
  · show slots + ms2 ≤ ms
    omega
/-- the same words at another number -/
theorem SJ.mem_eq {mem2 : List xM} (h : mem2 = mem) (kk : SJ g y d pc L st mem bc bs Q) : SJ g y d pc L st mem2 bc bs Q := by
  subst h; exact kk
theorem j_castA {i idx N : Nat} {f : Nat → Int32} (hd : decode y.2.1 pc = .ok (.checkcast idx, 3)) (hw : Cond.classLink y.1.cls idx "[I" ∈ gw) (hm : mem[i]? = some (.inl (0, N, .inl f))) (kk : SJ g y d (pc + 3) L (.ref i :: st) mem bc bs Q) : SJ g y d pc L (.ref i :: st) mem bc bs Q := by
  intro l ad ex dA D A p e s m args below meth c H locs cells slots ls mc ms hI
  exact va_castA hI.1.1 hI.1.2.1 hI.1.2.2.2.2.2.1 (hI.1.2.2.2.2.2.2.2 _ hw) hI.2.2.1.1 i (x_w_at hm) (hI.2.1.1.2 0 _ rfl).2 hd (kk hI)
theorem j_clone {i idx N : Nat} {f : Nat → Int32} (hd : decode y.2.1 pc = .ok (.invokevirtual idx, 3)) (w1 : Cond.methodLink y.1.cls idx ⟨"[I", "clone", "()Ljava/lang/Object;"⟩ ∈ gw) (w2 : Cond.sameMethod "[I" "java/lang/Object" "clone" "()Ljava/lang/Object;" ∈ gw) (w3 : Cond.native ⟨"java/lang/Object", "clone", "()Ljava/lang/Object;"⟩ ∈ gw) (w4 : Cond.instanceMethod ⟨"java/lang/Object", "clone", "()Ljava/lang/Object;"⟩ ∈ gw) (w5 : Cond.selects "[I" ⟨"[I", "clone", "()Ljava/lang/Object;"⟩ ⟨"java/lang/Object", "clone", "()Ljava/lang/Object;"⟩ ∈ gw)
    (hm : mem[i]? = some (.inl (0, N, .inl f))) (hcat : (st.map fun v => v.category).sum ≤ 8) (hb1 : 1 ≤ bc) (hb2 : N ≤ bs)
    (kk : SJ true y (d + 1) (pc + 3) L (.ref mem.length :: st) (mem ++ [.inl (0, N, .inl f)]) (bc - 1) (bs - N) Q) : SJ true y (d + 1) pc L (.ref i :: st) mem bc bs Q := by
  intro l ad ex dA D A p e s m args below meth c H locs cells slots ls mc ms hI
  have hts := hI.1.2.2.2.2.2.2.2
  have hc1 := hI.2.2.2.2.2.1
  have hc2 := hI.2.2.2.2.2.2
  have hcats : ((st.map (x_v ad ex)).map fun v => v.category).sum ≤ 8 := by
    rw [List.map_map, show ((fun v : Value => v.category) ∘ x_v ad ex) = (fun v : Value => v.category) from funext fun v => x_v_cat v]
    exact hcat
  have hz := (hI.2.2.1.2.2 rfl).1
  have hK := hI.2.1.1.2 0 _ rfl
  have hnm : s.vm.findClass "[I" = some (dA 0) := hK.2
  have hat : H[ad i]? = some (vp_cell (dA 0) (N, .inl f)) := hI.2.2.1.1 i _ (x_w_at hm)
  have hsz : (vp_cell (dA 0) (N, .inl f)).slots.size = N := arrV_size _ _ _
  obtain ⟨c0, t0', f1, f2, f3⟩ := Cond.castable_spec (va_Nw.use (A := args) rfl hI.2.1.2.1.2.2.2.2.2.2.2.2.2.2)
  cases hnm.symm.trans f1
  intro T hT X
  obtain ⟨-, kA, hkA, comp, hkind⟩ := State.isArrayOf_alike X.warmed.alike (hK.1 0 (fun _ => .null))
  obtain ⟨-, kS, hkS, compS, hkindS⟩ := hK.1 0 (fun _ => .null)
  obtain ⟨vm', X', stp⟩ := X.cloneArray hI.1.1 hI.1.2.2.2.2.2.1 (hts _ w1) (hts _ w2) (hts _ w3) (hts _ w4) (hts _ w5) (a := ad i) (cell := vp_cell (dA 0) (N, .inl f)) (by rw [hT]; exact hat) (fun k h => by cases h) (fun h => by cases h) hnm f2 f3
    (fun j v hv => by
      have hk' : T.vm.classes[dA 0]? = some kA := hkA
      have hfit : fits .int v = true := by
        by_cases hj : j < N
        · rw [show (vp_cell (dA 0) (N, .inl f)).slots[j]? = _ from arrV_read _ _ hj] at hv
          cases hv; rfl
        · rw [Array.getElem?_eq_none (by rw [hsz]; omega)] at hv
          cases hv
      rw [show (vp_cell (dA 0) (N, .inl f)).cls = dA 0 from rfl]
      simpa [State.fitsSlot, State.slotType?, hk', hkind] using hfit)
    (g := F0 m pc ls (.ref (ad i) :: st.map (x_v ad ex))) rfl (by show ls.size = _; rw [hI.1.2.2.2.2.1]; exact hI.2.2.2.2.1.1) rfl (by rw [hI.1.2.1]; exact hd) (by show 1 ≤ d + 1; omega) (by show 2 * 0 + _ + 14 ≤ 64 * (d + 1); omega) (by show cells + 1 ≤ mc; omega) (by rw [hsz]; show slots + N ≤ ms; omega) (hloader := Vm.clonesLoader_of_array hkS hkindS)
  rw [hsz] at X'
  generalize hH1 : H.push (vp_cell (dA 0) (N, .inl f)) = H1
  have z1 : H1.size = ad mem.length + 1 := by rw [← hH1, Array.size_push, hz]
  have e1 : H1[ad mem.length]? = some (vp_cell (dA 0) (N, .inl f)) := by rw [← hH1, ← hz, Array.getElem?_push_size]
  have o1 : ∀ q : Nat, q < ad mem.length → H1[q]? = H[q]? := fun q hq => by rw [← hH1, Array.getElem?_push, if_neg (by omega)]
  obtain ⟨t, b1, b2⟩ := kk (hI.push hb1 hb2 (q := .inl (0, N, .inl f)) e1 z1 o1) ((T.setVm vm').pushCell (vp_cell (dA 0) (N, .inl f))) (by rw [← hH1, ← hT]; rfl) X'
  refine ⟨t, stp t ?_, b2⟩
  rw [hT, hz]
  exact b1
theorem x_M.pushL {ad ex : Nat → Nat} {dA : Nat → ClassId} {D : va_G} {A : Nat → Prop} {H H1 : Heap} {qs : List xM} (hM : x_M true ad ex dA D A mem H) (hA : ∀ q, ad mem.length ≤ q → A q) (he : ∀ (j : Nat) (q : xM), qs[j]? = some q → va_at D xcl (ad mem.length + j, x_e ad ex dA q) H1) (z : H1.size = ad mem.length + qs.length) (oq : ∀ a : Nat, a < H.size → H1[a]? = H[a]?) : x_M true ad ex dA D A (mem ++ qs) H1 := by
  obtain ⟨hz, hgap⟩ := hM.2.2 rfl
  have had : ∀ j : Nat, ad (mem.length + j) = ad mem.length + j := fun j => by
    induction j with
    | zero => rfl
    | succ j ih =>
      rw [← Nat.add_assoc, hgap _ (Nat.le_add_right _ _), ih, Nat.add_assoc]
  have hlen : (mem ++ qs).length = mem.length + qs.length := List.length_append
  refine ⟨fun k x hx => ?_, fun j hj => ?_, fun _ => ⟨by rw [z, hlen, had], fun i hi => hgap i (by rw [hlen] at hi; omega)⟩⟩
  · obtain ⟨q, hq, rfl⟩ := x_w_of hx
    by_cases hk : k < mem.length
    · rw [List.getElem?_append_left hk] at hq
      exact (hM.1.kept (fun k x hx => oq x.1 ((hM.1 k x hx).lt))) k _ (x_w_at hq)
    · rw [List.getElem?_append_right (by omega)] at hq
      have h1 := he _ q hq
      rw [← had, show mem.length + (k - mem.length) = k by omega] at h1
      exact h1
  · rw [hlen] at hj
    by_cases h : j < mem.length
    · exact hM.2.1 j h
    · rw [show j = mem.length + (j - mem.length) by omega, had]
      exact hA _ (Nat.le_add_right _ _)
theorem x_I.pushL {ad ex : Nat → Nat} {dA : Nat → ClassId} {D : va_G} {A : Nat → Prop} {p : Program} {s : State} {m : MethodId} {args : Array Value} {meth : Method} {c : Code} {H H1 : Heap} {locs : List _root_.Jvm.Loc} {cells slots : Nat} {ls : Array Slot} {mc ms N K : Nat} {qs : List xM}
    (hI : x_I true y ad ex dA D A p s m args meth c H locs cells slots ls mc ms L mem bc bs) (hK : qs.length = K) (hb1 : K ≤ bc) (hb2 : N ≤ bs) (he : ∀ (j : Nat) (q : xM), qs[j]? = some q → va_at D xcl (ad mem.length + j, x_e ad ex dA q) H1) (z : H1.size = ad mem.length + K) (oq : ∀ a : Nat, a < ad mem.length → H1[a]? = H[a]?) :
    x_I true y ad ex dA D A p s m args meth c H1 locs (cells + K) (slots + N) ls mc ms L (mem ++ qs) (bc - K) (bs - N) := by
  subst hK
  have hz := (hI.2.2.1.2.2 rfl).1
  have hS := hI.2.2.2.1
  have hc1 := hI.2.2.2.2.2.1
  have hc2 := hI.2.2.2.2.2.2
  have hle := hS.1
  refine ⟨hI.1, hI.2.1, hI.2.2.1.pushL (fun q hq => hI.2.1.2.2.2.2.1 rfl _ (by omega)) he z (fun a ha => oq a (by omega)), ⟨by omega, fun q h1 h2 => ?_, hS.2.2⟩, hI.2.2.2.2.1, by omega, by omega⟩
  rw [oq q (by omega)]
  exact hS.2.1 q h1 h2
theorem x_outer (c : ClassId) (N h0 : Nat) : ∀ i, Jvm.Free.Multi.outerC c N h0 i = { cls := c, slots := (Jvm.Free.Multi.outerC c N h0 i).slots }
  | 0 => rfl
  | i + 1 => by
    have ih := x_outer c N h0 i
    show (Jvm.Free.Multi.outerC c N h0 i).setSlot i (.ref (h0 + 1 + i)) = { cls := c, slots := ((Jvm.Free.Multi.outerC c N h0 i).setSlot i (.ref (h0 + 1 + i))).slots }
    rw [ih]
    rfl
theorem j_multi {t0 t idx N M B : Nat} {ty : FieldType} {ad0 : String} {n k : Int32} {a0 : vp_A} {dv : Value} (hB : mem.length = B) (hd : decode y.2.1 pc = .ok (.multianewarray idx 2, 4)) (hT : (ty = .int ∧ t0 = 0 ∧ t = 7) ∨ (ty = .long ∧ t0 = 3 ∧ t = 8)) (had : "[" ++ (FieldType.array ty).toString = ad0) (w : Cond.classLink y.1.cls idx ad0 ∈ gw) (w2 : Cond.arrayClass ty ∈ gw) (hdv : defaultValue ty = dv) (ha : ∀ (ad : Nat → Nat) (cA : ClassId), vp_cell cA (x_a ad a0) = arrV cA M (fun _ => dv)) (hn : ¬ n < 0) (hN : n.toNatClampNeg = N) (hk : ¬ k < 0) (hM : k.toNatClampNeg = M) (hby : N ≤ 1000) (hby2 : M ≤ 10000) (hb1 : 1 + N ≤ bc) (hb2 : N + N * M ≤ bs)
    (kk : SJ true y d (pc + 4) L (.ref B :: st) (mem ++ (.inl (t, N, .inr (.inr (.inr (.inr (fun i => some (B + 1 + i)))))) :: List.replicate N (.inl (t0, a0)))) (bc - (1 + N)) (bs - (N + N * M)) Q) : SJ true y d pc L (.int k :: .int n :: st) mem bc bs Q := by
  intro l ad ex dA D A p e s m args below meth c H locs cells slots ls mc ms hI
  subst hB
  have hts := hI.1.2.2.2.2.2.2.2
  have hc1 := hI.2.2.2.2.2.1
  have hc2 := hI.2.2.2.2.2.2
  have hz := (hI.2.2.1.2.2 rfl).1
  have hgap := (hI.2.2.1.2.2 rfl).2
  have hov : (Cond.arrayOver (.array ty)).before args s = true := by
    rcases hT with ⟨rfl, -⟩ | ⟨rfl, -⟩
    · exact hI.2.1.2.1.2.2.2.2.2.2.2.2.1
    · exact hI.2.1.2.1.2.2.2.2.2.2.2.2.2.1
  have hfo : s.vm.findClass ("[" ++ (FieldType.array ty).toString) = some (dA t) := by
    rcases hT with ⟨rfl, -, rfl⟩ | ⟨rfl, -, rfl⟩
    · exact (hI.2.1.1.2 7 _ rfl).2
    · exact (hI.2.1.1.2 8 _ rfl).2
  have hfi : s.vm.findClass (FieldType.array ty).toString = some (dA t0) := by
    rcases hT with ⟨rfl, rfl, -⟩ | ⟨rfl, rfl, -⟩
    · exact (hI.2.1.1.2 0 _ rfl).2
    · exact (hI.2.1.1.2 3 _ rfl).2
  have hdd : fits ty (defaultValue ty) = true ∧ (defaultValue ty).isDefault = true ∧ componentBytes ty ≤ 8 := by
    rcases hT with ⟨rfl, -⟩ | ⟨rfl, -⟩
    · exact ⟨rfl, rfl, by decide⟩
    · exact ⟨rfl, rfl, by decide⟩
  have hcb := Nat.mul_le_mul_left M hdd.2.2
  subst hN; subst hM; subst had
  intro T hT' X
  obtain ⟨vm₁, cA, comp, hW, g1, g2, -, -, X1, stp⟩ := X.multianewarray2F hI.1.1 hI.1.2.2.2.2.2.1 (hts _ w) hov (hts _ w2) (g := F0 m pc ls (.int k :: .int n :: st.map (x_v ad ex))) rfl (by rw [hI.1.2.1]; exact hd) rfl hn hk (by omega) (by omega) (by omega) hdd.1 hdd.2.1 (by show _ ≤ mc; omega) (by show _ ≤ ms; omega)
  cases g1.symm.trans hfo
  cases g2.symm.trans hfi
  obtain ⟨f1, f2, f3, f4⟩ := Jvm.Free.Multi.fill_facts (T.setVm vm₁) (dA t) (dA t0) n.toNatClampNeg k.toNatClampNeg (defaultValue ty) n.toNatClampNeg
  have fo := fun (a : Addr) (ha : a < T.heap.size) => Jvm.Free.Multi.fill_old (T.setVm vm₁) (dA t) (dA t0) n.toNatClampNeg k.toNatClampNeg (defaultValue ty) (a := a) ha n.toNatClampNeg
  have fi := fun (j : Nat) (hj : j < n.toNatClampNeg) => Jvm.Free.Multi.fill_inner (T.setVm vm₁) (dA t) (dA t0) n.toNatClampNeg k.toNatClampNeg (defaultValue ty) n.toNatClampNeg j hj
  obtain ⟨o1, o2, o3⟩ := Jvm.Free.Multi.outerC_facts (dA t) n.toNatClampNeg T.heap.size n.toNatClampNeg
  have os := fun (j : Nat) (hj : j < n.toNatClampNeg) => Jvm.Free.Multi.outerC_slot (dA t) n.toNatClampNeg T.heap.size n.toNatClampNeg j hj
  have hTs : T.heap.size = ad mem.length := by rw [hT', hz]
  have hs0 : (T.setVm vm₁).heap.size = ad mem.length := hTs
  rw [hs0] at f1 f2
  have hadd : ∀ j : Nat, ad (mem.length + 1 + j) = ad mem.length + 1 + j := fun j => by
    induction j with
    | zero => exact hgap _ (Nat.le_refl _)
    | succ j ih => rw [← Nat.add_assoc, hgap _ (by omega), ih, Nat.add_assoc]
  have hou : Jvm.Free.Multi.outerC (dA t) n.toNatClampNeg (ad mem.length) n.toNatClampNeg = arrV (dA t) n.toNatClampNeg (fun j => va_rf (some (ad (mem.length + 1 + j)))) := by
    rw [hTs] at o3 os
    rw [x_outer]
    have : (Jvm.Free.Multi.outerC (dA t) n.toNatClampNeg (ad mem.length) n.toNatClampNeg).slots = (arrV (dA t) n.toNatClampNeg (fun j => va_rf (some (ad (mem.length + 1 + j))))).slots := by
      apply Array.ext_getElem?
      intro j
      by_cases hj : j < n.toNatClampNeg
      · rw [os j hj, arrV_read _ _ hj, if_pos hj, hadd]; rfl
      · rw [Array.getElem?_eq_none (by omega), Array.getElem?_eq_none (by rw [arrV_size]; omega)]
    rw [this]; rfl
  have hin : Jvm.Free.Multi.innerC (dA t0) k.toNatClampNeg (defaultValue ty) = arrV (dA t0) k.toNatClampNeg (fun _ => dv) := by
    rw [← hdv, ← arrV_new]; rfl
  have hpl := hI.pushL (H1 := (Jvm.Free.Multi.fill (T.setVm vm₁) (dA t) (dA t0) n.toNatClampNeg k.toNatClampNeg (defaultValue ty) n.toNatClampNeg).heap) (K := 1 + n.toNatClampNeg) (N := n.toNatClampNeg + n.toNatClampNeg * k.toNatClampNeg) (qs := .inl (t, n.toNatClampNeg, .inr (.inr (.inr (.inr (fun i => some (mem.length + 1 + i)))))) :: List.replicate n.toNatClampNeg (.inl (t0, a0))) (by simp [Nat.add_comm]) hb1 hb2 (fun j q hq => by
      cases j with
      | zero =>
        cases hq
        show (Jvm.Free.Multi.fill _ _ _ _ _ _ _).heap[ad mem.length + 0]? = some (vp_cell (dA t) _)
        rw [Nat.add_zero, f2, hou]
        rfl
      | succ j =>
        rw [List.getElem?_cons_succ, List.getElem?_replicate] at hq
        split at hq
        · rename_i hj
          cases hq
          show (Jvm.Free.Multi.fill _ _ _ _ _ _ _).heap[ad mem.length + (j + 1)]? = some (vp_cell (dA t0) (x_a ad a0))
          have h3 := fi j hj
          rw [hs0] at h3
          rw [ha, ← hin, ← h3, Nat.add_assoc, Nat.add_comm 1 j]
        · cases hq) (by rw [f1, Nat.add_assoc]) (fun a ha => (fo a (by rw [hTs]; exact ha)).trans (by show T.heap[a]? = _; rw [hT']))
  obtain ⟨t', b1, b2⟩ := kk hpl _ rfl (X1.more (by omega) (by omega))
  refine ⟨t', stp t' ?_, b2⟩
  rw [hTs]
  exact b1
theorem j_cast {i n : Nat} {f : Nat → Int32} {j : Int32} {x : Int32} (hd : decode y.2.1 pc = .ok (.castore, 1)) (hm : mem[i]? = some (.inl (4, n, .inl f))) (hj : vp_in j n) (kk : SJ g y d (pc + 1) L st (mem.set i (.inl (4, n, .inl (upd f j.toNatClampNeg (vp_nar .char x))))) bc bs Q) : SJ g y d pc L (.int x :: .int j :: .ref i :: st) mem bc bs Q := by
  intro l ad ex dA D A p e s m args below meth c H locs cells slots ls mc ms hI
  have hP : va_P D xcl (x_w ad ex dA mem) H := hI.2.2.1.1
  refine W.cast hI.1.1 hI.1.2.1 (hP i _ (x_w_at hm)) ((hI.2.1.1.2 4 _ rfl).1 n (fun j => .int (f j))) (fun q => by cases q) (by show ¬ (j < 0 ∨ (arrV _ _ _).slots.size ≤ _); rw [arrV_size]; exact hj) rfl rfl hd fun H1 e z oq => ?_
  refine kk (hI.put hm _ ?_ z oq)
  show H1[ad i]? = some (vp_cell _ _)
  rw [e]
  show some ((vp_cell _ (n, .inl f)).setSlot _ _) = some (vp_cell _ (n, .inl (upd f j.toNatClampNeg (vp_nar .char x))))
  rw [vp_cell_i, vp_cell_i, arrV_store]
  congr 2
  funext q
  by_cases hq : q = j.toNatClampNeg
  · subst hq
    simp [updV, upd, vp_nar]
    try rfl
  · simp [updV, upd, hq]
theorem j_copyT {j0 i1 n1 idx : Nat} {h : Nat → Int32} {sp dp n : Int32} (hd : decode y.2.1 pc = .ok (.invokestatic idx, 3)) (hw : Cond.methodLink y.1.cls idx arraycopyName ∈ gw) (hj0 : j0 < 3) (hm1 : mem[i1]? = some (.inl (0, n1, .inl h))) (h1 : ¬ sp < 0) (h2 : ¬ dp < 0) (h3 : ¬ n < 0) (h4 : sp.toNatClampNeg + n.toNatClampNeg ≤ 3) (h5 : dp.toNatClampNeg + n.toNatClampNeg ≤ n1) (hcat : (st.map fun v => v.category).sum ≤ 8)
    (kk : SJ g y (d + 1) (pc + 3) L st (mem.set i1 (.inl (0, n1, .inl (va_cpy (x_st j0) h sp.toNatClampNeg dp.toNatClampNeg n.toNatClampNeg)))) bc bs Q) : SJ g y (d + 1) pc L (.int n :: .int dp :: .ref i1 :: .int sp :: .retAddr j0 :: st) mem bc bs Q := by
  intro l ad ex dA D A p e s m args below meth c H locs cells slots ls mc ms hI
  have hts := hI.1.2.2.2.2.2.2.2
  have nn : ∀ z : Int32, ¬ z < 0 → z.toInt = (z.toNatClampNeg : Int) := by
    intro z hz
    have hz0 : (0 : Int) ≤ z.toInt := by
      have := Int32.not_lt.mp hz
      simpa using Int32.le_iff_toInt_le.mp this
    show z.toInt = ((z.toInt.toNat : Nat) : Int)
    omega
  intro T hT X
  have hP := hI.2.2.1.1
  have hK := hI.2.1.1
  obtain ⟨cs, s1, ⟨s2, k0, hk0, cm0, hkk0⟩, s3, s4, -, s6, s7⟩ := (hI.2.1.2.1.1 j0 hj0).2
  have hc0 : H[ex j0]? = some cs := by rw [hI.2.2.2.1.2.1 _ (Array.getElem?_eq_some_iff.mp s1).1 s7]; exact s1
  have hc1 : H[ad i1]? = some (vp_cell (dA 0) (n1, .inl h)) := hP i1 _ (x_w_at hm1)
  obtain ⟨-, k1, hk1, cm1, hkk1⟩ := (hK.2 0 _ rfl).1 n1 (fun j => .int (h j))
  obtain ⟨vm', X', step⟩ := X.arraycopy hI.1.1 hI.1.2.2.2.2.2.1 (hts _ hw) (hts _ wd_acN) (hts _ wd_acS) (hts _ wd_acI) (src := ex j0) (dst := ad i1) (cs := cs) (cd := vp_cell (dA 0) (n1, .inl h)) (srcPos := sp) (destPos := dp) (n := n) (by rw [hT]; exact hc0) (by rw [hT]; exact hc1)
    s2 (fun _ h => by cases h) s3 (fun h => by cases h) hk0 hk1 hkk0 hkk1 (by simp [refKind]) h1 h2 h3
    (by rw [nn sp h1, nn n h3]; omega)
    (by rw [nn dp h2, nn n h3]; show ¬ _ > ((arrV (dA 0) n1 (fun j => .int (h j))).slots.size : Int); rw [arrV_size]; omega)
    (fun vm₁ _ i hi => by
      have e : cs.slots.getD (sp.toNatClampNeg + i) .null = .int (x_st j0 (sp.toNatClampNeg + i)) := by
        rw [Array.getD_eq_getD_getElem?, s6 _ (by omega)]
        rfl
      refine ⟨?_, ?_⟩
      · rw [e]
        rfl
      · rw [e]
        exact trivial)
    (g := F0 m pc ls ((.int n :: .int dp :: .ref i1 :: .int sp :: .retAddr j0 :: st).map (x_v ad ex))) rfl (by show ls.size = _; rw [hI.1.2.2.2.2.1]; exact hI.2.2.2.2.1.1) (rest := st.map (x_v ad ex)) rfl (by rw [hI.1.2.1]; exact hd) (Nat.succ_le_succ (Nat.zero_le d)) (by
      have hq := x_cats (ad := ad) (ex := ex) hcat
      have e9 : nativeFrameWords "java/lang/System" "arraycopy" 5 = 7 := by decide
      rw [e9]
      show 2 * 0 + _ + (7 + 11) ≤ 64 * (d + 1)
      omega)
  have e1 : copied cs (vp_cell (dA 0) (n1, .inl h)) sp dp n = vp_cell (dA 0) (n1, .inl (va_cpy (x_st j0) h sp.toNatClampNeg dp.toNatClampNeg n.toNatClampNeg)) := va_copiedX (fun z => .int z) cs (dA 0) (x_st j0) h (fun j hj => s6 j hj) h4
  rw [e1] at X' step
  have hl : ad i1 < H.size := (Array.getElem?_eq_some_iff.mp hc1).1
  have oq : ∀ q : Nat, q ≠ ad i1 → (H.setIfInBounds (ad i1) (vp_cell (dA 0) (n1, .inl (va_cpy (x_st j0) h sp.toNatClampNeg dp.toNatClampNeg n.toNatClampNeg))))[q]? = H[q]? := fun q hq => by simp [Array.getElem?_setIfInBounds, Ne.symm hq]
  have hM2 : x_M g ad ex dA D A (mem.set i1 (.inl (0, n1, .inl (va_cpy (x_st j0) h sp.toNatClampNeg dp.toNatClampNeg n.toNatClampNeg)))) (H.setIfInBounds (ad i1) (vp_cell (dA 0) (n1, .inl (va_cpy (x_st j0) h sp.toNatClampNeg dp.toNatClampNeg n.toNatClampNeg)))) := hI.2.2.1.put hI.2.1.2.2.2.1 hm1 (show (H.setIfInBounds (ad i1) _)[ad i1]? = some _ by simp [Array.getElem?_setIfInBounds, hl]; rfl) (by simp) oq
  have hS := hI.2.2.2.1
  have hAi : A (ad i1) := hI.2.2.1.2.1 i1 (List.getElem?_eq_some_iff.mp hm1).1
  obtain ⟨t, a1, b1⟩ := kk (H := H.setIfInBounds (ad i1) (vp_cell (dA 0) (n1, .inl (va_cpy (x_st j0) h sp.toNatClampNeg dp.toNatClampNeg n.toNatClampNeg)))) ⟨hI.1, hI.2.1, hM2, ⟨by simp; exact hS.1, fun q g1 g2 => by
      rw [oq q (fun e => g2 (by rw [e]; exact hAi))]
      exact hS.2.1 q g1 g2, fun q hq => by
      rcases List.mem_append.mp hq with h | h
      · exact hS.2.2 q h
      · obtain ⟨z, -, hz⟩ := List.mem_map.mp h
        rw [← hz]
        exact hAi⟩, hI.2.2.2.2⟩ _ (by rw [← hT]; rfl) X'
  exact ⟨t, step t a1, b1⟩
end SJB
