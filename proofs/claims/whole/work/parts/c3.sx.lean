/-! THE LAW'S FRAME: the judgement with one premise more, on what the script holds -/
def SX (E : (Nat → Nat) → Prop) (g : Bool) (y : xY) (d pc : Nat) (L : List (Option Value)) (st : List Value) (mem : List xM) (bc bs : Nat) (Q : List xM → Option Value → Prop) : Prop :=
  ∀ ⦃l : Launch⦄ ⦃ad ex : Nat → Nat⦄ ⦃dA : Nat → ClassId⦄ ⦃D : va_G⦄ ⦃A : Nat → Prop⦄ ⦃p : Program⦄ ⦃e : Env⦄ ⦃s : State⦄ ⦃m : MethodId⦄ ⦃args : Array Value⦄ ⦃below : List Frame⦄ ⦃meth : Method⦄ ⦃c : Code⦄ ⦃H : Heap⦄ ⦃locs : List _root_.Jvm.Loc⦄ ⦃cells slots : Nat⦄ ⦃ls : Array Slot⦄ ⦃mc ms : Nat⦄,
    E ex → x_I g y ad ex dA D A p s m args meth c H locs cells slots ls mc ms L mem bc bs → W p l e (x_rm d mc ms) s m args below meth c H locs cells slots (MQ below (x_Q g ad ex dA D A Q) args s mc ms A) (F0 m pc ls (st.map (x_v ad ex)))
section SXR
variable {E : (Nat → Nat) → Prop} {g : Bool} {y : xY} {d pc : Nat} {L : List (Option Value)} {st : List Value} {mem : List xM} {bc bs : Nat} {Q : List xM → Option Value → Prop}
theorem q_iconst {n : Int} {v : Int32} (hd : decode y.2.1 pc = .ok (.iconst n, 1)) (hv : Int32.ofInt n = v) (k : SX E g y d (pc + 1) L (.int v :: st) mem bc bs Q) : SX E g y d pc L st mem bc bs Q := by
  intro l ad ex dA D A p e s m args below meth c H locs cells slots ls mc ms hE hI
  exact lv_iconst hI.1.1 hI.1.2.1 hd hv (k hE hI)
theorem q_bipush {n : Int} {v : Int32} (hd : decode y.2.1 pc = .ok (.bipush n, 2)) (hv : (Int8.ofInt n).toInt32 = v) (k : SX E g y d (pc + 2) L (.int v :: st) mem bc bs Q) : SX E g y d pc L st mem bc bs Q := by
  intro l ad ex dA D A p e s m args below meth c H locs cells slots ls mc ms hE hI
  exact lv_bipush hI.1.1 hI.1.2.1 hd hv (k hE hI)
theorem q_ldc2 {i : Nat} {v : Int64} (hd : decode y.2.1 pc = .ok (.ldc2_w i, 3)) (hw : Cond.constantLong y.1.cls i v ∈ gw) (k : SX E g y d (pc + 3) L (.long v :: st) mem bc bs Q) : SX E g y d pc L st mem bc bs Q := by
  intro l ad ex dA D A p e s m args below meth c H locs cells slots ls mc ms hE hI
  exact lv_ldc2 hI.1.1 hI.1.2.1 hI.1.2.2.2.2.2.1 (hI.1.2.2.2.2.2.2.2 _ hw) hd (k hE hI)
theorem q_iload_n {i : Fin 4} {x : Int32} (hd : decode y.2.1 pc = .ok (.iload_n i, 1)) (hl : L[(i : Nat)]? = some (some (.int x))) (k : SX E g y d (pc + 1) L (.int x :: st) mem bc bs Q) : SX E g y d pc L st mem bc bs Q := by
  intro l ad ex dA D A p e s m args below meth c H locs cells slots ls mc ms hE hI
  exact lv_iload_n hI.1.1 hI.1.2.1 hd rfl (hI.2.2.2.2.1.2.2 _ _ hl) (k hE hI)
theorem q_aload_n {i : Fin 4} {a : Nat} (hd : decode y.2.1 pc = .ok (.aload_n i, 1)) (hl : L[(i : Nat)]? = some (some (.ref a))) (k : SX E g y d (pc + 1) L (.ref a :: st) mem bc bs Q) : SX E g y d pc L st mem bc bs Q := by
  intro l ad ex dA D A p e s m args below meth c H locs cells slots ls mc ms hE hI
  exact lv_aload_n hI.1.1 hI.1.2.1 hd rfl (hI.2.2.2.2.1.2.2 _ _ hl) (k hE hI)
theorem q_istore_n {i : Fin 4} {x : Int32} (hd : decode y.2.1 pc = .ok (.istore_n i, 1)) (hn : (i : Nat) < y.2.2.1) (k : SX E g y d (pc + 1) (x_s1 L (i : Nat) (.int x)) st mem bc bs Q) : SX E g y d pc L (.int x :: st) mem bc bs Q := by
  intro l ad ex dA D A p e s m args below meth c H locs cells slots ls mc ms hE hI
  exact lv_istore_n hI.1.1 hI.1.2.1 hd rfl hI.2.2.2.2.1.has hn rfl (fun ls' h' => k hE ⟨hI.1, hI.2.1, hI.2.2.1, hI.2.2.2.1, x_L.st1 h', hI.2.2.2.2.2⟩)
theorem q_astore_n {i : Fin 4} {x : Nat} (hd : decode y.2.1 pc = .ok (.astore_n i, 1)) (hn : (i : Nat) < y.2.2.1) (k : SX E g y d (pc + 1) (x_s1 L (i : Nat) (.ref x)) st mem bc bs Q) : SX E g y d pc L (.ref x :: st) mem bc bs Q := by
  intro l ad ex dA D A p e s m args below meth c H locs cells slots ls mc ms hE hI
  exact lv_astore_n hI.1.1 hI.1.2.1 hd rfl hI.2.2.2.2.1.has hn rfl (fun ls' h' => k hE ⟨hI.1, hI.2.1, hI.2.2.1, hI.2.2.2.1, x_L.st1 h', hI.2.2.2.2.2⟩)
theorem q_iinc {i : Nat} {n : Int} {x v : Int32} (hd : decode y.2.1 pc = .ok (.iinc i n, 3)) (hl : L[i]? = some (some (.int x))) (hv : x + Int32.ofInt n = v) (hn : i < y.2.2.1) (k : SX E g y d (pc + 3) (x_s1 L i (.int v)) st mem bc bs Q) : SX E g y d pc L st mem bc bs Q := by
  intro l ad ex dA D A p e s m args below meth c H locs cells slots ls mc ms hE hI
  have hin := x_ll_in (ad := ad) (ex := ex) hl
  obtain ⟨kk, hk⟩ := List.getElem?_of_mem hin
  exact lv_iinc hI.1.1 hI.1.2.1 hd hI.2.2.2.2.1.has hk hv hn rfl (fun ls' h' => k hE ⟨hI.1, hI.2.1, hI.2.2.1, hI.2.2.2.1, x_L.st1 h', hI.2.2.2.2.2⟩)
theorem q_iadd {a b : Int32} (hd : decode y.2.1 pc = .ok (.iadd, 1)) (k : SX E g y d (pc + 1) L (.int (a + b) :: st) mem bc bs Q) : SX E g y d pc L (.int b :: .int a :: st) mem bc bs Q := by
  intro l ad ex dA D A p e s m args below meth c H locs cells slots ls mc ms hE hI
  exact lv_iadd hI.1.1 hI.1.2.1 hd (k hE hI)
theorem q_isub {a b : Int32} (hd : decode y.2.1 pc = .ok (.isub, 1)) (k : SX E g y d (pc + 1) L (.int (a - b) :: st) mem bc bs Q) : SX E g y d pc L (.int b :: .int a :: st) mem bc bs Q := by
  intro l ad ex dA D A p e s m args below meth c H locs cells slots ls mc ms hE hI
  exact lv_isub hI.1.1 hI.1.2.1 hd (k hE hI)
theorem q_iand {a b : Int32} (hd : decode y.2.1 pc = .ok (.iand, 1)) (k : SX E g y d (pc + 1) L (.int (a &&& b) :: st) mem bc bs Q) : SX E g y d pc L (.int b :: .int a :: st) mem bc bs Q := by
  intro l ad ex dA D A p e s m args below meth c H locs cells slots ls mc ms hE hI
  exact lv_iand hI.1.1 hI.1.2.1 hd (k hE hI)
theorem q_land {a b : Int64} (hd : decode y.2.1 pc = .ok (.land, 1)) (k : SX E g y d (pc + 1) L (.long (a &&& b) :: st) mem bc bs Q) : SX E g y d pc L (.long b :: .long a :: st) mem bc bs Q := by
  intro l ad ex dA D A p e s m args below meth c H locs cells slots ls mc ms hE hI
  exact lv_land hI.1.1 hI.1.2.1 hd (k hE hI)
theorem q_lor {a b : Int64} (hd : decode y.2.1 pc = .ok (.lor, 1)) (k : SX E g y d (pc + 1) L (.long (a ||| b) :: st) mem bc bs Q) : SX E g y d pc L (.long b :: .long a :: st) mem bc bs Q := by
  intro l ad ex dA D A p e s m args below meth c H locs cells slots ls mc ms hE hI
  exact lv_lor hI.1.1 hI.1.2.1 hd (k hE hI)
theorem q_lshl {a : Int64} {b : Int32} (hd : decode y.2.1 pc = .ok (.lshl, 1)) (k : SX E g y d (pc + 1) L (.long (a <<< (b.toInt64 &&& 63)) :: st) mem bc bs Q) : SX E g y d pc L (.int b :: .long a :: st) mem bc bs Q := by
  intro l ad ex dA D A p e s m args below meth c H locs cells slots ls mc ms hE hI
  exact lv_lshl hI.1.1 hI.1.2.1 hd rfl (k hE hI)
theorem q_lcmp {a b : Int64} (hd : decode y.2.1 pc = .ok (.lcmp, 1)) (k : SX E g y d (pc + 1) L (.int (lg_cmp a b) :: st) mem bc bs Q) : SX E g y d pc L (.long b :: .long a :: st) mem bc bs Q := by
  intro l ad ex dA D A p e s m args below meth c H locs cells slots ls mc ms hE hI
  exact W.lcmp hI.1.1 hI.1.2.1 hd (k hE hI)
theorem q_i2l {a : Int32} (hd : decode y.2.1 pc = .ok (.i2l, 1)) (k : SX E g y d (pc + 1) L (.long a.toInt64 :: st) mem bc bs Q) : SX E g y d pc L (.int a :: st) mem bc bs Q := by
  intro l ad ex dA D A p e s m args below meth c H locs cells slots ls mc ms hE hI
  exact lv_i2l hI.1.1 hI.1.2.1 hd rfl (k hE hI)
theorem q_dup {v : Value} (hd : decode y.2.1 pc = .ok (.dup, 1)) (hc : v.category = 1) (k : SX E g y d (pc + 1) L (v :: v :: st) mem bc bs Q) : SX E g y d pc L (v :: st) mem bc bs Q := by
  intro l ad ex dA D A p e s m args below meth c H locs cells slots ls mc ms hE hI
  exact lv_dup hI.1.1 hI.1.2.1 hd (by rw [x_v_cat]; exact hc) (k hE hI)
theorem q_if_eq {x : Int32} {o : Int} {t : Nat} (hd : decode y.2.1 pc = .ok (.ifCond .eq o, 3)) (ht : (pc : Int) + o = (t : Int)) (kt : x = 0 → SX E g y d t L st mem bc bs Q) (kf : ¬ (x = 0) → SX E g y d (pc + 3) L st mem bc bs Q) : SX E g y d pc L (.int x :: st) mem bc bs Q := by
  intro l ad ex dA D A p e s m args below meth c H locs cells slots ls mc ms hE hI
  exact lv_if_eq hI.1.1 hI.1.2.1 hd ht (fun h => kt h hE hI) (fun h => kf h hE hI)
theorem q_icmp_eq {x z : Int32} {o : Int} {t : Nat} (hd : decode y.2.1 pc = .ok (.if_icmp .eq o, 3)) (ht : (pc : Int) + o = (t : Int)) (kt : x = z → SX E g y d t L st mem bc bs Q) (kf : ¬ (x = z) → SX E g y d (pc + 3) L st mem bc bs Q) : SX E g y d pc L (.int z :: .int x :: st) mem bc bs Q := by
  intro l ad ex dA D A p e s m args below meth c H locs cells slots ls mc ms hE hI
  exact lv_icmp_eq hI.1.1 hI.1.2.1 hd ht (fun h => kt h hE hI) (fun h => kf h hE hI)
theorem q_icmp_gt {x z : Int32} {o : Int} {t : Nat} (hd : decode y.2.1 pc = .ok (.if_icmp .gt o, 3)) (ht : (pc : Int) + o = (t : Int)) (kt : z < x → SX E g y d t L st mem bc bs Q) (kf : ¬ (z < x) → SX E g y d (pc + 3) L st mem bc bs Q) : SX E g y d pc L (.int z :: .int x :: st) mem bc bs Q := by
  intro l ad ex dA D A p e s m args below meth c H locs cells slots ls mc ms hE hI
  exact lv_icmp_gt hI.1.1 hI.1.2.1 hd ht (fun h => kt h hE hI) (fun h => kf h hE hI)
theorem q_goto {o : Int} {t : Nat} (hd : decode y.2.1 pc = .ok (.goto o, 3)) (ht : (pc : Int) + o = (t : Int)) (k : SX E g y d t L st mem bc bs Q) : SX E g y d pc L st mem bc bs Q := by
  intro l ad ex dA D A p e s m args below meth c H locs cells slots ls mc ms hE hI
  exact lv_goto hI.1.1 hI.1.2.1 hd ht (k hE hI)
theorem q_tabIn {df lo hi o : Int} {os : Array Int} {n t : Nat} {x : Int32} (hd : decode y.2.1 pc = .ok (.tableswitch df lo hi os, n)) (h1 : ¬ x.toInt < lo) (h2 : ¬ hi < x.toInt) (ho : os[(x.toInt - lo).toNat]? = some o) (ht : (pc : Int) + o = (t : Int)) (k : SX E g y d t L st mem bc bs Q) : SX E g y d pc L (.int x :: st) mem bc bs Q := by
  intro l ad ex dA D A p e s m args below meth c H locs cells slots ls mc ms hE hI
  exact lv_tableIn hI.1.1 hI.1.2.1 hd h1 h2 ho ht (k hE hI)
theorem q_tabOut {df lo hi : Int} {os : Array Int} {n t : Nat} {x : Int32} (hd : decode y.2.1 pc = .ok (.tableswitch df lo hi os, n)) (h : x.toInt < lo ∨ hi < x.toInt) (ht : (pc : Int) + df = (t : Int)) (k : SX E g y d t L st mem bc bs Q) : SX E g y d pc L (.int x :: st) mem bc bs Q := by
  intro l ad ex dA D A p e s m args below meth c H locs cells slots ls mc ms hE hI
  exact lv_tableOut hI.1.1 hI.1.2.1 hd h ht (k hE hI)
theorem q_zreturn {v : Int32} {ty : FieldType} (hr : y.2.2.2 = some ty) (hn : narrow ty (.int v) = .int v) (hd : decode y.2.1 pc = .ok (.ireturn, 1)) (hq : Q mem (some (.int v))) : SX E g y d pc L [.int v] mem bc bs Q := by
  intro l ad ex dA D A p e s m args below meth c H locs cells slots ls mc ms hE hI
  have hlocks := hI.1.2.2.2.1
  refine W.widen (k := mc) (n := ms) (Nat.le_trans (Nat.le_add_right _ _) hI.2.2.2.2.2.1) (Nat.le_trans (Nat.le_add_right _ _) hI.2.2.2.2.2.2) ?_
  exact W.zret hI.1.1 hI.1.2.1 (hI.1.2.2.1.trans hr) hn (fun t ht hW => ⟨⟨mem, some (.int v), rfl, hq, by rw [ht]; exact hI.2.2.1⟩, hI.2.2.2.1.F ht⟩) hI.2.2.2.1.2.2 hd hlocks
theorem q_run {ad ex : Nat → Nat} {dA : Nat → ClassId} {D : va_G} {A : Nat → Prop} {p : Program} {l : Launch} {e : Env} {s : State} {m : MethodId} {args : Array Value} {below : List Frame} {meth : Method} {c : Code} {H : Heap} {locs : List _root_.Jvm.Loc} {cells slots : Nat} {ls : Array Slot} {mc ms mc2 ms2 : Nat} {st0 rest : List Value} {a : Array Value} {Q2 : List xM → Option Value → Prop}
    (hE : E ex) (hI : x_I g y ad ex dA D A p s m args meth c H locs cells slots ls mc ms L mem bc bs) (hb1 : mc2 ≤ bc) (hb2 : ms2 ≤ bs)
    (hr : va_Run p l e (x_rm d mc ms) s m args below meth c H locs cells slots mc2 ms2 (F0 m pc ls st0) (rest.map (x_v ad ex)) (x_Q g ad ex dA D A Q2 a) A)
    (kk : ∀ (mem2 : List xM) (r : Option Value), Q2 mem2 r → SX E g y d (pc + 3) L (r.toList ++ rest) mem2 (bc - mc2) (bs - ms2) Q) :
    W p l e (x_rm d mc ms) s m args below meth c H locs cells slots (MQ below (x_Q g ad ex dA D A Q) args s mc ms A) (F0 m pc ls st0) := by
  intro T hT X
  obtain ⟨v, st₀, t, T', L2, h0, X', hL, e1, e2, ⟨⟨mem2, r, hv, hq, hM⟩, hz, hk⟩, stp⟩ := hr T hT X
  cases hv
  rw [h0] at hz hk
  have hS := hI.2.2.2.1
  have hS2 : va_S A s.heap T'.heap (locs ++ L2) := ⟨Nat.le_trans hS.1 (by rw [e1]; exact hz), fun q h1 h2 => by rw [e1, hk q (Nat.lt_of_lt_of_le h1 hS.1) h2]; exact hS.2.1 q h1 h2, fun q hq => by
      rcases List.mem_append.mp hq with h | h
      · exact hS.2.2 q h
      · exact hL q h⟩
  have hc1 := hI.2.2.2.2.2.1
  have hc2 := hI.2.2.2.2.2.2
  obtain ⟨t2, a1, b1⟩ := kk mem2 r hq (H := T'.heap) (locs := locs ++ L2) (cells := cells + mc2) (slots := slots + ms2) hE ⟨hI.1, hI.2.1, by rw [e1]; exact hM, hS2, hI.2.2.2.2.1, by omega, by omega⟩ T' rfl X'
  refine ⟨t2, stp t2 ?_, b1⟩
  cases r with
  | none => exact a1
  | some w => exact a1
theorem q_callV {y2 : xY} {i ci idx n mc2 ms2 : Nat} {fs as : List Value} {st0 : List Value} (hd : decode y.2.1 pc = .ok (.invokevirtual idx, 3)) (hc : x_cv y.1.cls idx y2 n) (hm : mem[i]? = some (.inr (ci, fs))) (hci : ∃ q : vw_C, xcl[ci]? = some q ∧ q.1 = y2.1.cls) (hst : st0 = as.reverse ++ .ref i :: st) (hn : as.length = n) (hcat : (st.map fun v => v.category).sum ≤ 8) (hb1 : mc2 ≤ bc) (hb2 : ms2 ≤ bs)
    (kk : CT g y2 d (.ref i :: as) mem mc2 ms2 (fun mem2 r => SX E g y (d + 1) (pc + 3) L (r.toList ++ st) mem2 (bc - mc2) (bs - ms2) Q)) : SX E g y (d + 1) pc L st0 mem bc bs Q := by
  intro l ad ex dA D A p e s m args below meth c H locs cells slots ls mc ms hE hI
  subst hst
  obtain ⟨q, hq, hqc⟩ := hci
  have hts := hI.1.2.2.2.2.2.2.2
  have hc1 := hI.2.2.2.2.2.1
  have hc2 := hI.2.2.2.2.2.2
  have hcats : ((st.map (x_v ad ex)).map fun v => v.category).sum ≤ 8 := by
    rw [List.map_map, show ((fun v : Value => v.category) ∘ x_v ad ex) = (fun v : Value => v.category) from funext fun v => x_v_cat v]
    exact hcat
  have hrv : ∃ cell : Cell, H[ad i]? = some cell ∧ cell.vm.isStatics = false ∧ s.vm.findClass y2.1.cls = some cell.cls := by
    rw [← hqc]
    exact va_recv hI.2.1.1 hI.2.2.1.1 hq (x_w_at hm)
  refine q_run (rest := st) hE hI hb1 hb2 (va_runV (C := y2.1.cls) (b := ad i) (As := as.map (x_v ad ex)) (nL := y.2.2.1) (Ts := gw) (own := y.1.cls) ⟨hI.1.1, hI.1.2.1, hI.1.2.2.2.2.1, hI.1.2.2.2.2.2.1, hts⟩ (kk (l := l) (ad := ad) (ex := ex) (dA := dA) (D := D) (A := A)) ⟨x_callB hc.1 hts, hts _ hc.2.1, hts _ hc.2.2⟩ ⟨x_blind, hrv, fun U hU hW => x_pre hI U hU hW⟩ rfl (by rw [List.length_map]; exact hn) hI.2.2.2.2.1.1 (by simp [List.map_append, List.map_reverse, x_v]) (lv_room hcats) hd ⟨?_, ?_⟩) (fun mem2 r h => h)
  · show cells + mc2 ≤ mc
    omega
  · show slots + ms2 ≤ ms
    omega
theorem q_callI {y2 : xY} {i idx n mc2 ms2 : Nat} {as : List Value} {st0 : List Value} (hd : decode y.2.1 pc = .ok (.invokespecial idx, 3)) (hc : x_ci y.1.cls idx y2 n) (hst : st0 = as.reverse ++ .ref i :: st) (hn : as.length = n) (hcat : (st.map fun v => v.category).sum ≤ 8) (hb1 : mc2 ≤ bc) (hb2 : ms2 ≤ bs)
    (kk : CT g y2 d (.ref i :: as) mem mc2 ms2 (fun mem2 r => SX E g y (d + 1) (pc + 3) L (r.toList ++ st) mem2 (bc - mc2) (bs - ms2) Q)) : SX E g y (d + 1) pc L st0 mem bc bs Q := by
  intro l ad ex dA D A p e s m args below meth c H locs cells slots ls mc ms hE hI
  subst hst
  have hts := hI.1.2.2.2.2.2.2.2
  have hc1 := hI.2.2.2.2.2.1
  have hc2 := hI.2.2.2.2.2.2
  have hcats : ((st.map (x_v ad ex)).map fun v => v.category).sum ≤ 8 := by
    rw [List.map_map, show ((fun v : Value => v.category) ∘ x_v ad ex) = (fun v : Value => v.category) from funext fun v => x_v_cat v]
    exact hcat
  have hcb := x_callB (d := d) (mc := mc) (ms := ms) (mc2 := mc2) (ms2 := ms2) hc.1 hts
  rw [hc.2.2.1] at hcb
  refine q_run (rest := st) hE hI hb1 hb2 (va_runI (b := ad i) (As := as.map (x_v ad ex)) (nL := y.2.2.1) (Ts := gw) (own := y.1.cls) ⟨hI.1.1, hI.1.2.1, hI.1.2.2.2.2.1, hI.1.2.2.2.2.2.1, hts⟩ (kk (l := l) (ad := ad) (ex := ex) (dA := dA) (D := D) (A := A)) ⟨hcb, hc.2.1, hts _ hc.2.2.2⟩ ⟨x_blind, fun U hU hW => x_pre hI U hU hW⟩ rfl (by rw [List.length_map]; exact hn) hI.2.2.2.2.1.1 (by simp [List.map_append, List.map_reverse, x_v]) (lv_room hcats) hd ⟨?_, ?_⟩) (fun mem2 r h => h)
  · show cells + mc2 ≤ mc
    omega
  · show slots + ms2 ≤ ms
    omega
theorem q_new {idx ci N : Nat} {C : String} {T : u_T} {fs : List Value} (hd : decode y.2.1 pc = .ok (.new idx, 3)) (hq : xcl[ci]? = some (C, T, N)) (ty : Nat → FieldType) (hty : ∀ k, k < N → parseFieldDescriptor (T k).2.2.1 = some (ty k)) (hfs : ∀ (ad ex : Nat → Nat) (j : Nat), j < N → defaultValue (ty j) = vp_V (fs.map (x_v ad ex)) j) (w1 : Cond.classLink y.1.cls idx C ∈ gw) (w2 : Cond.instantiable C N ∈ gw) (w3 : Cond.initialized C ∈ gw) (hb1 : 1 ≤ bc) (hb2 : N ≤ bs)
    (kk : SX E true y d (pc + 3) L (.ref mem.length :: st) (mem ++ [.inr (ci, fs)]) (bc - 1) (bs - N) Q) : SX E true y d pc L st mem bc bs Q := by
  intro l ad ex dA D A p e s m args below meth c H locs cells slots ls mc ms hE hI
  have hts := hI.1.2.2.2.2.2.2.2
  have hc1 := hI.2.2.2.2.2.1
  have hc2 := hI.2.2.2.2.2.2
  have hKn := hI.2.1.1.1 ci _ hq
  refine W.newcK (h := ad mem.length) hI.1.1 hI.1.2.1 hI.1.2.2.2.2.2.1 (hts _ w1) (hts _ w2) (hts _ w3) rfl hd (by show _ ≤ mc; omega) (by show _ ≤ ms; omega) hKn.2.1 (hI.2.2.1.2.2 rfl).1 fun H1 kC hkC e1 z1 o1 => ?_
  exact kk hE (hI.push hb1 hb2 ⟨_, hq, (u_born ty hts (x_cls hq).1 hKn hkC e1 hty).to (hfs ad ex)⟩ z1 o1)
theorem q_mem_eq {mem2 : List xM} (h : mem2 = mem) (kk : SX E g y d pc L st mem bc bs Q) : SX E g y d pc L st mem2 bc bs Q := by
  subst h; exact kk
theorem q_aload_nX {i : Fin 4} {j : Nat} (hd : decode y.2.1 pc = .ok (.aload_n i, 1)) (hl : L[(i : Nat)]? = some (some (.retAddr j))) (k : SX E g y d (pc + 1) L (.retAddr j :: st) mem bc bs Q) : SX E g y d pc L st mem bc bs Q := by
  intro l ad ex dA D A p e s m args below meth c H locs cells slots ls mc ms hE hI
  exact lv_aload_n hI.1.1 hI.1.2.1 hd rfl (hI.2.2.2.2.1.2.2 _ _ hl) (k hE hI)
theorem q_slen {v : Int32} (hd : decode y.2.1 pc = .ok (.arraylength, 1)) (hv : ∀ ex, E ex → Int32.ofNat (ex 6) = v) (kk : SX E g y d (pc + 1) L (.int v :: st) mem bc bs Q) : SX E g y d pc L (.retAddr 3 :: st) mem bc bs Q := by
  intro l ad ex dA D A p e s m args below meth c H locs cells slots ls mc ms hE hI
  exact va_tlen hI.1.1 hI.1.2.1 hI.2.1.2.1.2.1 hI.2.2.2.1 (hv ex hE) hd (kk hE hI)
theorem q_siald {j : Int32} {v : Int32} (hd : decode y.2.1 pc = .ok (.iaload, 1)) (hj : ∀ ex, E ex → vp_in j (ex 6)) (hv : ∀ ex, E ex → Int32.ofNat (ex (7 + j.toNatClampNeg)) = v) (kk : SX E g y d (pc + 1) L (.int v :: st) mem bc bs Q) : SX E g y d pc L (.int j :: .retAddr 3 :: st) mem bc bs Q := by
  intro l ad ex dA D A p e s m args below meth c H locs cells slots ls mc ms hE hI
  exact va_ti hI.1.1 hI.1.2.1 hI.2.1.2.1.2.1 hI.2.2.2.1 (hj ex hE) (show Value.int (Int32.ofNat (ex (7 + j.toNatClampNeg))) = .int v by rw [hv ex hE]) hd (kk hE hI)
end SXR
