theorem wd_acN : Cond.native arraycopyName ∈ gw := gw_in (i := 81) (by decide +kernel) (by decide +kernel)
theorem wd_acS : Cond.static arraycopyName ∈ gw := gw_in (i := 80) (by decide +kernel) (by decide +kernel)
theorem wd_acI : Cond.initialized "java/lang/System" ∈ gw := gw_in (i := 4) (by decide +kernel) (by decide +kernel)
theorem wd_mI : Cond.initialized "java/lang/Math" ∈ gw := gw_in (i := 19) (by decide +kernel) (by decide +kernel)
theorem wd_maxS : Cond.static Lib.Math.max.name ∈ gw := gw_in (i := 822) (by decide +kernel) (by decide +kernel)
theorem wd_maxC : Cond.code Lib.Math.max.name Lib.Math.max.code 2 (some .int) ∈ gw := gw_in (i := 823) (by decide +kernel) (by decide +kernel)
theorem wd_minS : Cond.static Lib.Math.min.name ∈ gw := gw_in (i := 609) (by decide +kernel) (by decide +kernel)
theorem wd_minC : Cond.code Lib.Math.min.name Lib.Math.min.code 2 (some .int) ∈ gw := gw_in (i := 610) (by decide +kernel) (by decide +kernel)
theorem wd_oi : Cond.instanceMethod objectInit ∈ gw := gw_in (i := 27) (by decide +kernel) (by decide +kernel)
theorem wd_oc : Cond.code objectInit ⟨#[0xb1]⟩ 1 none ∈ gw := gw_in (i := 28) (by decide +kernel) (by decide +kernel)
theorem wd_a_int : Cond.arrayClass .int ∈ gw := gw_in (i := 74) (by decide +kernel) (by decide +kernel)
theorem wd_a_byte : Cond.arrayClass .byte ∈ gw := gw_in (i := 195) (by decide +kernel) (by decide +kernel)
theorem wd_a_boolean : Cond.arrayClass .boolean ∈ gw := gw_in (i := 194) (by decide +kernel) (by decide +kernel)
theorem wd_a_long : Cond.arrayClass .long ∈ gw := gw_in (i := 473) (by decide +kernel) (by decide +kernel)
theorem wd_a_char : Cond.arrayClass .char ∈ gw := gw_in (i := 196) (by decide +kernel) (by decide +kernel)
theorem x_cats {ad ex : Nat → Nat} {st : List Value} (hcat : (st.map fun v => v.category).sum ≤ 8) : ((st.map (x_v ad ex)).map fun v => v.category).sum ≤ 8 := by
  rw [List.map_map, show ((fun v : Value => v.category) ∘ x_v ad ex) = (fun v : Value => v.category) from funext fun v => x_v_cat v]
  exact hcat
section SJA
variable {g : Bool} {y : xY} {d pc : Nat} {L : List (Option Value)} {st : List Value} {mem : List xM} {bc bs : Nat} {Q : List xM → Option Value → Prop}
theorem j_copyI {i0 i1 n0 n1 idx : Nat} {f h : Nat → Int32} {sp dp n : Int32} (hd : decode y.2.1 pc = .ok (.invokestatic idx, 3)) (hw : Cond.methodLink y.1.cls idx arraycopyName ∈ gw) (hm0 : mem[i0]? = some (.inl (0, n0, .inl f))) (hm1 : mem[i1]? = some (.inl (0, n1, .inl h))) (h1 : ¬ sp < 0) (h2 : ¬ dp < 0) (h3 : ¬ n < 0) (h4 : sp.toNatClampNeg + n.toNatClampNeg ≤ n0) (h5 : dp.toNatClampNeg + n.toNatClampNeg ≤ n1) (hcat : (st.map fun v => v.category).sum ≤ 8)
    (kk : SJ g y (d + 1) (pc + 3) L st (mem.set i1 (.inl (0, n1, .inl (va_cpy f h sp.toNatClampNeg dp.toNatClampNeg n.toNatClampNeg)))) bc bs Q) : SJ g y (d + 1) pc L (.int n :: .int dp :: .ref i1 :: .int sp :: .ref i0 :: st) mem bc bs Q := by
  intro l ad ex dA D A p e s m args below meth c H locs cells slots ls mc ms hI
  have hts := hI.1.2.2.2.2.2.2.2
  have nn : ∀ z : Int32, ¬ z < 0 → z.toInt = (z.toNatClampNeg : Int) := by
    intro z hz
    have hz0 : (0 : Int) ≤ z.toInt := by
      have := Int32.not_lt.mp hz
      simpa using Int32.le_iff_toInt_le.mp this
    show z.toInt = ((z.toInt.toNat : Nat) : Int)
    omega
  intro T hT X
  have hP := hI.2.2.1.1
  have hK := hI.2.1.1
  have hc0 : H[ad i0]? = some (vp_cell (dA 0) (n0, .inl f)) := hP i0 _ (x_w_at hm0)
  have hc1 : H[ad i1]? = some (vp_cell (dA 0) (n1, .inl h)) := hP i1 _ (x_w_at hm1)
  obtain ⟨-, k0, hk0, cm0, hkk0⟩ := (hK.2 0 _ rfl).1 n0 (fun j => .int (f j))
  obtain ⟨-, k1, hk1, cm1, hkk1⟩ := (hK.2 0 _ rfl).1 n1 (fun j => .int (h j))
  obtain ⟨vm', X', step⟩ := X.arraycopy hI.1.1 hI.1.2.2.2.2.2.1 (hts _ hw) (hts _ wd_acN) (hts _ wd_acS) (hts _ wd_acI) (src := ad i0) (dst := ad i1) (cs := vp_cell (dA 0) (n0, .inl f)) (cd := vp_cell (dA 0) (n1, .inl h)) (srcPos := sp) (destPos := dp) (n := n) (by rw [hT]; exact hc0) (by rw [hT]; exact hc1)
    (fun _ h => by cases h) (fun _ h => by cases h) (fun h => by cases h) (fun h => by cases h) hk0 hk1 hkk0 hkk1 (by simp [refKind]) h1 h2 h3
    (by rw [nn sp h1, nn n h3]; show ¬ _ > ((arrV (dA 0) n0 (fun j => .int (f j))).slots.size : Int); rw [arrV_size]; omega)
    (by rw [nn dp h2, nn n h3]; show ¬ _ > ((arrV (dA 0) n1 (fun j => .int (h j))).slots.size : Int); rw [arrV_size]; omega)
    (fun vm₁ _ i hi => by
      have e : (vp_cell (dA 0) (n0, .inl f)).slots.getD (sp.toNatClampNeg + i) .null = .int (f (sp.toNatClampNeg + i)) := by
        show (arrV (dA 0) n0 (fun j => .int (f j))).slots.getD _ _ = _
        rw [Array.getD_eq_getD_getElem?, arrV_read _ _ (by omega)]
        rfl
      refine ⟨?_, ?_⟩
      · rw [e]
        rfl
      · rw [e]
        exact trivial)
    (g := F0 m pc ls ((.int n :: .int dp :: .ref i1 :: .int sp :: .ref i0 :: st).map (x_v ad ex))) rfl (by show ls.size = _; rw [hI.1.2.2.2.2.1]; exact hI.2.2.2.2.1.1) (rest := st.map (x_v ad ex)) rfl (by rw [hI.1.2.1]; exact hd) (Nat.succ_le_succ (Nat.zero_le d)) (by
      have hq := x_cats (ad := ad) (ex := ex) hcat
      have e9 : nativeFrameWords "java/lang/System" "arraycopy" 5 = 7 := by decide
      rw [e9]
      show 2 * 0 + _ + (7 + 11) ≤ 64 * (d + 1)
      omega)
  have e1 : copied (vp_cell (dA 0) (n0, .inl f)) (vp_cell (dA 0) (n1, .inl h)) sp dp n = vp_cell (dA 0) (n1, .inl (va_cpy f h sp.toNatClampNeg dp.toNatClampNeg n.toNatClampNeg)) := va_copied (fun z => .int z) (dA 0) (dA 0) f h h4
  rw [e1] at X' step
  have hl : ad i1 < H.size := (Array.getElem?_eq_some_iff.mp hc1).1
  have oq : ∀ q : Nat, q ≠ ad i1 → (H.setIfInBounds (ad i1) (vp_cell (dA 0) (n1, .inl (va_cpy f h sp.toNatClampNeg dp.toNatClampNeg n.toNatClampNeg))))[q]? = H[q]? := fun q hq => by simp [Array.getElem?_setIfInBounds, Ne.symm hq]
  have hM2 : x_M g ad ex dA D A (mem.set i1 (.inl (0, n1, .inl (va_cpy f h sp.toNatClampNeg dp.toNatClampNeg n.toNatClampNeg)))) (H.setIfInBounds (ad i1) (vp_cell (dA 0) (n1, .inl (va_cpy f h sp.toNatClampNeg dp.toNatClampNeg n.toNatClampNeg)))) := hI.2.2.1.put hI.2.1.2.2.2.1 hm1 (show (H.setIfInBounds (ad i1) _)[ad i1]? = some _ by simp [Array.getElem?_setIfInBounds, hl]; rfl) (by simp) oq
  have hS := hI.2.2.2.1
  have hAi : A (ad i1) := hI.2.2.1.2.1 i1 (List.getElem?_eq_some_iff.mp hm1).1
  obtain ⟨t, a1, b1⟩ := kk (H := H.setIfInBounds (ad i1) (vp_cell (dA 0) (n1, .inl (va_cpy f h sp.toNatClampNeg dp.toNatClampNeg n.toNatClampNeg)))) ⟨hI.1, hI.2.1, hM2, ⟨by simp; exact hS.1, fun q g1 g2 => by
      rw [oq q (fun e => g2 (by rw [e]; exact hAi))]
      exact hS.2.1 q g1 g2, fun q hq => by
      rcases List.mem_append.mp hq with h | h
      · exact hS.2.2 q h
      · obtain ⟨z, -, hz⟩ := List.mem_map.mp h
        rw [← hz]
        exact hAi⟩, hI.2.2.2.2⟩ _ (by rw [← hT]; rfl) X'
  exact ⟨t, step t a1, b1⟩
theorem j_copyL {i0 i1 n0 n1 idx : Nat} {f h : Nat → Int64} {sp dp n : Int32} (hd : decode y.2.1 pc = .ok (.invokestatic idx, 3)) (hw : Cond.methodLink y.1.cls idx arraycopyName ∈ gw) (hm0 : mem[i0]? = some (.inl (3, n0, .inr (.inl f)))) (hm1 : mem[i1]? = some (.inl (3, n1, .inr (.inl h)))) (h1 : ¬ sp < 0) (h2 : ¬ dp < 0) (h3 : ¬ n < 0) (h4 : sp.toNatClampNeg + n.toNatClampNeg ≤ n0) (h5 : dp.toNatClampNeg + n.toNatClampNeg ≤ n1) (hcat : (st.map fun v => v.category).sum ≤ 8)
    (kk : SJ g y (d + 1) (pc + 3) L st (mem.set i1 (.inl (3, n1, .inr (.inl (va_cpy f h sp.toNatClampNeg dp.toNatClampNeg n.toNatClampNeg))))) bc bs Q) : SJ g y (d + 1) pc L (.int n :: .int dp :: .ref i1 :: .int sp :: .ref i0 :: st) mem bc bs Q := by
  intro l ad ex dA D A p e s m args below meth c H locs cells slots ls mc ms hI
  have hts := hI.1.2.2.2.2.2.2.2
  have nn : ∀ z : Int32, ¬ z < 0 → z.toInt = (z.toNatClampNeg : Int) := by
    intro z hz
    have hz0 : (0 : Int) ≤ z.toInt := by
      have := Int32.not_lt.mp hz
      simpa using Int32.le_iff_toInt_le.mp this
    show z.toInt = ((z.toInt.toNat : Nat) : Int)
    omega
  intro T hT X
  have hP := hI.2.2.1.1
  have hK := hI.2.1.1
  have hc0 : H[ad i0]? = some (vp_cell (dA 3) (n0, .inr (.inl f))) := hP i0 _ (x_w_at hm0)
  have hc1 : H[ad i1]? = some (vp_cell (dA 3) (n1, .inr (.inl h))) := hP i1 _ (x_w_at hm1)
  obtain ⟨-, k0, hk0, cm0, hkk0⟩ := (hK.2 3 _ rfl).1 n0 (fun j => .long (f j))
  obtain ⟨-, k1, hk1, cm1, hkk1⟩ := (hK.2 3 _ rfl).1 n1 (fun j => .long (h j))
  obtain ⟨vm', X', step⟩ := X.arraycopy hI.1.1 hI.1.2.2.2.2.2.1 (hts _ hw) (hts _ wd_acN) (hts _ wd_acS) (hts _ wd_acI) (src := ad i0) (dst := ad i1) (cs := vp_cell (dA 3) (n0, .inr (.inl f))) (cd := vp_cell (dA 3) (n1, .inr (.inl h))) (srcPos := sp) (destPos := dp) (n := n) (by rw [hT]; exact hc0) (by rw [hT]; exact hc1)
    (fun _ h => by cases h) (fun _ h => by cases h) (fun h => by cases h) (fun h => by cases h) hk0 hk1 hkk0 hkk1 (by simp [refKind]) h1 h2 h3
    (by rw [nn sp h1, nn n h3]; show ¬ _ > ((arrV (dA 3) n0 (fun j => .long (f j))).slots.size : Int); rw [arrV_size]; omega)
    (by rw [nn dp h2, nn n h3]; show ¬ _ > ((arrV (dA 3) n1 (fun j => .long (h j))).slots.size : Int); rw [arrV_size]; omega)
    (fun vm₁ _ i hi => by
      have e : (vp_cell (dA 3) (n0, .inr (.inl f))).slots.getD (sp.toNatClampNeg + i) .null = .long (f (sp.toNatClampNeg + i)) := by
        show (arrV (dA 3) n0 (fun j => .long (f j))).slots.getD _ _ = _
        rw [Array.getD_eq_getD_getElem?, arrV_read _ _ (by omega)]
        rfl
      refine ⟨?_, ?_⟩
      · rw [e]
        rfl
      · rw [e]
        exact trivial)
    (g := F0 m pc ls ((.int n :: .int dp :: .ref i1 :: .int sp :: .ref i0 :: st).map (x_v ad ex))) rfl (by show ls.size = _; rw [hI.1.2.2.2.2.1]; exact hI.2.2.2.2.1.1) (rest := st.map (x_v ad ex)) rfl (by rw [hI.1.2.1]; exact hd) (Nat.succ_le_succ (Nat.zero_le d)) (by
      have hq := x_cats (ad := ad) (ex := ex) hcat
      have e9 : nativeFrameWords "java/lang/System" "arraycopy" 5 = 7 := by decide
      rw [e9]
      show 2 * 0 + _ + (7 + 11) ≤ 64 * (d + 1)
      omega)
  have e1 : copied (vp_cell (dA 3) (n0, .inr (.inl f))) (vp_cell (dA 3) (n1, .inr (.inl h))) sp dp n = vp_cell (dA 3) (n1, .inr (.inl (va_cpy f h sp.toNatClampNeg dp.toNatClampNeg n.toNatClampNeg))) := va_copied (fun z => .long z) (dA 3) (dA 3) f h h4
  rw [e1] at X' step
  have hl : ad i1 < H.size := (Array.getElem?_eq_some_iff.mp hc1).1
  have oq : ∀ q : Nat, q ≠ ad i1 → (H.setIfInBounds (ad i1) (vp_cell (dA 3) (n1, .inr (.inl (va_cpy f h sp.toNatClampNeg dp.toNatClampNeg n.toNatClampNeg)))))[q]? = H[q]? := fun q hq => by simp [Array.getElem?_setIfInBounds, Ne.symm hq]
  have hM2 : x_M g ad ex dA D A (mem.set i1 (.inl (3, n1, .inr (.inl (va_cpy f h sp.toNatClampNeg dp.toNatClampNeg n.toNatClampNeg))))) (H.setIfInBounds (ad i1) (vp_cell (dA 3) (n1, .inr (.inl (va_cpy f h sp.toNatClampNeg dp.toNatClampNeg n.toNatClampNeg))))) := hI.2.2.1.put hI.2.1.2.2.2.1 hm1 (show (H.setIfInBounds (ad i1) _)[ad i1]? = some _ by simp [Array.getElem?_setIfInBounds, hl]; rfl) (by simp) oq
  have hS := hI.2.2.2.1
  have hAi : A (ad i1) := hI.2.2.1.2.1 i1 (List.getElem?_eq_some_iff.mp hm1).1
  obtain ⟨t, a1, b1⟩ := kk (H := H.setIfInBounds (ad i1) (vp_cell (dA 3) (n1, .inr (.inl (va_cpy f h sp.toNatClampNeg dp.toNatClampNeg n.toNatClampNeg))))) ⟨hI.1, hI.2.1, hM2, ⟨by simp; exact hS.1, fun q g1 g2 => by
      rw [oq q (fun e => g2 (by rw [e]; exact hAi))]
      exact hS.2.1 q g1 g2, fun q hq => by
      rcases List.mem_append.mp hq with h | h
      · exact hS.2.2 q h
      · obtain ⟨z, -, hz⟩ := List.mem_map.mp h
        rw [← hz]
        exact hAi⟩, hI.2.2.2.2⟩ _ (by rw [← hT]; rfl) X'
  exact ⟨t, step t a1, b1⟩
theorem j_max {idx : Nat} {a b : Int32} (hd : decode y.2.1 pc = .ok (.invokestatic idx, 3)) (hw : Cond.methodLink y.1.cls idx Lib.Math.max.name ∈ gw) (hcat : (st.map fun v => v.category).sum ≤ 8) (kk : SJ g y (d + 1) (pc + 3) L (.int (if a < b then b else a) :: st) mem bc bs Q) : SJ g y (d + 1) pc L (.int b :: .int a :: st) mem bc bs Q := by
  intro l ad ex dA D A p e s m args below meth c H locs cells slots ls mc ms hI
  have hts := hI.1.2.2.2.2.2.2.2
  have hq := x_cats (ad := ad) (ex := ex) hcat
  exact va_mmax hI.1.1 hI.1.2.1 (by rw [hI.1.2.2.2.2.1]; exact hI.2.2.2.2.1.1.symm) hI.1.2.2.2.2.2.1 (hts _ hw) (hts _ wd_maxS) (hts _ wd_mI) (hts _ wd_maxC) (Nat.succ_le_succ (Nat.zero_le d)) (by show _ ≤ 64 * (d + 1); omega) (Nat.le_trans (Nat.le_add_right _ _) hI.2.2.2.2.2.1) (Nat.le_trans (Nat.le_add_right _ _) hI.2.2.2.2.2.2) hd (kk hI)
theorem j_min {idx : Nat} {a b : Int32} (hd : decode y.2.1 pc = .ok (.invokestatic idx, 3)) (hw : Cond.methodLink y.1.cls idx Lib.Math.min.name ∈ gw) (hcat : (st.map fun v => v.category).sum ≤ 8) (kk : SJ g y (d + 1) (pc + 3) L (.int (if b < a then b else a) :: st) mem bc bs Q) : SJ g y (d + 1) pc L (.int b :: .int a :: st) mem bc bs Q := by
  intro l ad ex dA D A p e s m args below meth c H locs cells slots ls mc ms hI
  have hts := hI.1.2.2.2.2.2.2.2
  have hq := x_cats (ad := ad) (ex := ex) hcat
  exact va_mmin hI.1.1 hI.1.2.1 (by rw [hI.1.2.2.2.2.1]; exact hI.2.2.2.2.1.1.symm) hI.1.2.2.2.2.2.1 (hts _ hw) (hts _ wd_minS) (hts _ wd_mI) (hts _ wd_minC) (Nat.succ_le_succ (Nat.zero_le d)) (by show _ ≤ 64 * (d + 1); omega) (Nat.le_trans (Nat.le_add_right _ _) hI.2.2.2.2.2.1) (Nat.le_trans (Nat.le_add_right _ _) hI.2.2.2.2.2.2) hd (kk hI)
theorem j_objI {idx i : Nat} (hd : decode y.2.1 pc = .ok (.invokespecial idx, 3)) (hw : Cond.methodLink y.1.cls idx objectInit ∈ gw) (hcat : (st.map fun v => v.category).sum ≤ 8) (kk : SJ g y (d + 1) (pc + 3) L st mem bc bs Q) : SJ g y (d + 1) pc L (.ref i :: st) mem bc bs Q := by
  intro l ad ex dA D A p e s m args below meth c H locs cells slots ls mc ms hI
  have hts := hI.1.2.2.2.2.2.2.2
  have hq := x_cats (ad := ad) (ex := ex) hcat
  exact W.objInit hI.1.1 hI.1.2.1 hI.1.2.2.2.2.2.1 (hts _ hw) (hts _ wd_oi) (hts _ wd_oc) rfl (by rw [hI.1.2.2.2.2.1]; exact hI.2.2.2.2.1.1) rfl hd (Nat.succ_le_succ (Nat.zero_le d)) (by show 2 * 0 + _ + 12 ≤ 64 * (d + 1); omega) (kk hI)
/-- a cell more -/
theorem x_M.push {ad ex : Nat → Nat} {dA : Nat → ClassId} {D : va_G} {A : Nat → Prop} {H H1 : Heap} {q : xM} (hM : x_M true ad ex dA D A mem H) (hA : A (ad mem.length)) (he : va_at D xcl (ad mem.length, x_e ad ex dA q) H1) (z : H1.size = ad mem.length + 1) (oq : ∀ a : Nat, a < H.size → H1[a]? = H[a]?) : x_M true ad ex dA D A (mem ++ [q]) H1 := by
  obtain ⟨hz, hgap⟩ := hM.2.2 rfl
  have hlen : (mem ++ [q]).length = mem.length + 1 := by simp
  refine ⟨?_, fun j hj => ?_, fun _ => ⟨by rw [z, hlen, hgap _ (Nat.le_refl _)], fun i hi => hgap i (by rw [hlen] at hi; omega)⟩⟩
  · rw [← x_w_push]
    refine (hM.1.kept (fun k x hx => oq x.1 ((hM.1 k x hx).lt))).app (fun k x hx => ?_)
    have hz : k < 1 := (List.getElem?_eq_some_iff.mp hx).1
    rw [show k = 0 by omega] at hx
    cases hx
    exact he
  · rw [hlen] at hj
    by_cases h : j < mem.length
    · exact hM.2.1 j h
    · have : j = mem.length := by omega
      rw [this]
      exact hA
theorem x_I.push {ad ex : Nat → Nat} {dA : Nat → ClassId} {D : va_G} {A : Nat → Prop} {p : Program} {s : State} {m : MethodId} {args : Array Value} {meth : Method} {c : Code} {H H1 : Heap} {locs : List Loc} {cells slots : Nat} {ls : Array Slot} {mc ms N : Nat} {q : xM}
    (hI : x_I true y ad ex dA D A p s m args meth c H locs cells slots ls mc ms L mem bc bs) (hb1 : 1 ≤ bc) (hb2 : N ≤ bs) (he : va_at D xcl (ad mem.length, x_e ad ex dA q) H1) (z : H1.size = ad mem.length + 1) (oq : ∀ a : Nat, a < ad mem.length → H1[a]? = H[a]?) :
    x_I true y ad ex dA D A p s m args meth c H1 locs (cells + 1) (slots + N) ls mc ms L (mem ++ [q]) (bc - 1) (bs - N) := by
  have hz := (hI.2.2.1.2.2 rfl).1
  have hS := hI.2.2.2.1
  have hc1 := hI.2.2.2.2.2.1
  have hc2 := hI.2.2.2.2.2.2
  have hle := hS.1
  refine ⟨hI.1, hI.2.1, hI.2.2.1.push (hI.2.1.2.2.2.2.1 rfl _ (by omega)) he z (fun a ha => oq a (by omega)), ⟨by omega, fun q h1 h2 => ?_, hS.2.2⟩, hI.2.2.2.2.1, by omega, by omega⟩
  rw [oq q (by omega)]
  exact hS.2.1 q h1 h2
theorem j_new {idx ci N : Nat} {C : String} {T : u_T} {fs : List Value} (hd : decode y.2.1 pc = .ok (.new idx, 3)) (hq : xcl[ci]? = some (C, T, N)) (ty : Nat → FieldType) (hty : ∀ k, k < N → parseFieldDescriptor (T k).2.2.1 = some (ty k)) (hfs : ∀ (ad ex : Nat → Nat) (j : Nat), j < N → defaultValue (ty j) = vp_V (fs.map (x_v ad ex)) j) (w1 : Cond.classLink y.1.cls idx C ∈ gw) (w2 : Cond.instantiable C N ∈ gw) (w3 : Cond.initialized C ∈ gw) (hb1 : 1 ≤ bc) (hb2 : N ≤ bs)
    (kk : SJ true y d (pc + 3) L (.ref mem.length :: st) (mem ++ [.inr (ci, fs)]) (bc - 1) (bs - N) Q) : SJ true y d pc L st mem bc bs Q := by
  intro l ad ex dA D A p e s m args below meth c H locs cells slots ls mc ms hI
  have hts := hI.1.2.2.2.2.2.2.2
  have hc1 := hI.2.2.2.2.2.1
  have hc2 := hI.2.2.2.2.2.2
  have hKn := hI.2.1.1.1 ci _ hq
  refine W.newcK (h := ad mem.length) hI.1.1 hI.1.2.1 hI.1.2.2.2.2.2.1 (hts _ w1) (hts _ w2) (hts _ w3) rfl hd (by show _ ≤ mc; omega) (by show _ ≤ ms; omega) hKn.2.1 (hI.2.2.1.2.2 rfl).1 fun H1 kC hkC e1 z1 o1 => ?_
  exact kk (hI.push hb1 hb2 ⟨_, hq, (u_born ty hts (x_cls hq).1 hKn hkC e1 hty).to (hfs ad ex)⟩ z1 o1)
theorem j_newa {at_ : ArrayType} {ty : FieldType} {t N : Nat} {n : Int32} {a0 : vp_A} (hd : decode y.2.1 pc = .ok (.newarray at_, 2)) (hty : newarray.typeOf at_ = ty) (ht : ∀ dA : Nat → ClassId, (x_ty dA)[t]? = some (dA t, ty)) (hra : ∀ (U : State) (c : ClassId), va_RA U c ty → U.vm.findClass ("[" ++ ty.toString) = some c) (w : Cond.arrayClass ty ∈ gw) (ha : ∀ (ad : Nat → Nat) (cA : ClassId), vp_cell cA (x_a ad a0) = arrV cA N (fun _ => defaultValue ty)) (hn : ¬ n < 0) (hN : n.toNatClampNeg = N) (hby : N * componentBytes ty ≤ 536870912) (hb1 : 1 ≤ bc) (hb2 : N ≤ bs)
    (kk : SJ true y d (pc + 2) L (.ref mem.length :: st) (mem ++ [.inl (t, a0)]) (bc - 1) (bs - N) Q) : SJ true y d pc L (.int n :: st) mem bc bs Q := by
  intro l ad ex dA D A p e s m args below meth c H locs cells slots ls mc ms hI
  have hts := hI.1.2.2.2.2.2.2.2
  have hc1 := hI.2.2.2.2.2.1
  have hc2 := hI.2.2.2.2.2.2
  subst hty
  refine va_newaK (h := ad mem.length) hI.1.1 hI.1.2.1 (hts _ w) rfl hd rfl hn hN hby (by show _ ≤ mc; omega) (by show _ ≤ ms; omega) (hI.2.2.1.2.2 rfl).1 fun H1 cA e1 z1 o1 hAr hNm => ?_
  have hcA : cA = dA t := Option.some.inj (hNm.symm.trans (hra _ _ (hI.2.1.1.2 t _ (ht dA)).2))
  subst hcA
  exact kk (hI.push hb1 hb2 (show H1[ad mem.length]? = some (vp_cell (dA t) (x_a ad a0)) by rw [ha]; exact e1) z1 o1)
theorem j_newq {C : String} {idx t N : Nat} {n : Int32} (hd : decode y.2.1 pc = .ok (.anewarray idx, 3)) (hC : (C = "BracketHouse$Text" ∧ t = 5) ∨ (C = "BracketHouse$State" ∧ t = 6)) (w : Cond.classLink y.1.cls idx C ∈ gw) (hn : ¬ n < 0) (hN : n.toNatClampNeg = N) (hby : N * 4 ≤ 536870912) (hb1 : 1 ≤ bc) (hb2 : N ≤ bs)
    (kk : SJ true y d (pc + 3) L (.ref mem.length :: st) (mem ++ [.inl (t, N, .inr (.inr (.inr (.inr (fun _ => none)))))]) (bc - 1) (bs - N) Q) : SJ true y d pc L (.int n :: st) mem bc bs Q := by
  intro l ad ex dA D A p e s m args below meth c H locs cells slots ls mc ms hI
  have hts := hI.1.2.2.2.2.2.2.2
  have hc1 := hI.2.2.2.2.2.1
  have hc2 := hI.2.2.2.2.2.2
  have hover : va_AO C s := by
    rcases hC with ⟨rfl, -⟩ | ⟨rfl, -⟩
    · exact hI.2.1.2.2.2.2.2.1
    · exact hI.2.1.2.2.2.2.2.2
  subst hN
  have hz := (hI.2.2.1.2.2 rfl).1
  refine W.anew hI.1.1 hI.1.2.1 hI.1.2.2.2.2.2.1 (hts _ w) (va_AO.use hover) rfl hd rfl hn hby (by show _ ≤ mc; omega) (by show _ ≤ ms; omega) fun cA kA comp f1 f2 f3 f4 => ?_
  have hcA : cA = dA t := by
    rcases hC with ⟨rfl, rfl⟩ | ⟨rfl, rfl⟩
    · obtain ⟨_, _, -, -, -, r⟩ := (hI.2.1.1.2 5 _ rfl).2
      exact Option.some.inj (f1.symm.trans r)
    · obtain ⟨_, _, -, -, -, r⟩ := (hI.2.1.1.2 6 _ rfl).2
      exact Option.some.inj (f1.symm.trans r)
  subst hcA
  generalize hH1 : H.push ({ cls := dA t, slots := Array.replicate n.toNatClampNeg .null, vm := .none } : Cell) = H1
  have z1 : H1.size = ad mem.length + 1 := by rw [← hH1, Array.size_push, hz]
  have e1 : H1[ad mem.length]? = some (arrV (dA t) n.toNatClampNeg (fun _ => .null)) := by rw [← hH1, ← hz, Array.getElem?_push_size, ← arrV_new]
  have o1 : ∀ q : Nat, q < ad mem.length → H1[q]? = H[q]? := fun q hq => by rw [← hH1, Array.getElem?_push, if_neg (by omega)]
  rw [hz]
  exact kk (hI.push hb1 hb2 (show H1[ad mem.length]? = some (vp_cell (dA t) _) from e1) z1 o1)
end SJA
