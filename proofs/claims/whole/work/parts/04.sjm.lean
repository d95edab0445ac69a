/-- what the tables say of each class of the worlds -/
theorem x_cls {ci : Nat} {q : vw_C} (h : xcl[ci]? = some q) : (∀ w ∈ u_ws q.1 q.2.1 q.2.2, w ∈ gw) ∧ (∃ ty0 : Nat → FieldType, ∀ k, k < q.2.2 → parseFieldDescriptor (q.2.1 k).2.2.1 = some (ty0 k)) ∧ ∀ a, a < q.2.2 → ∀ b, b < q.2.2 → a ≠ b → (q.2.1 a).2.1 ≠ (q.2.1 b).2.1 := by
  match ci, h with
  | 0, h => cases h; exact ⟨lay0, ⟨ft0, fo0⟩, fn0⟩
  | 1, h => cases h; exact ⟨lay1, ⟨ft1, fo1⟩, fn1⟩
  | 2, h => cases h; exact ⟨lay2, ⟨ft2, fo2⟩, fn2⟩
  | 3, h => cases h; exact ⟨lay3, ⟨ft3, fo3⟩, fn3⟩
  | 4, h => cases h; exact ⟨lay4, ⟨ft4, fo4⟩, fn4⟩
  | 5, h => cases h; exact ⟨lay5, ⟨ft5, fo5⟩, fn5⟩
  | 6, h => cases h; exact ⟨lay6, ⟨ft6, fo6⟩, fn6⟩
  | 7, h => cases h; exact ⟨lay7, ⟨ft7, fo7⟩, fn7⟩
  | 8, h => cases h; exact ⟨lay8, ⟨ft8, fo8⟩, fn8⟩
  | 9, h => cases h; exact ⟨lay9, ⟨ft9, fo9⟩, fn9⟩
  | 10, h => cases h; exact ⟨lay10, ⟨ft10, fo10⟩, fn10⟩
  | 11, h => cases h; exact ⟨lay11, ⟨ft11, fo11⟩, fn11⟩
  | 12, h => cases h; exact ⟨lay12, ⟨ft12, fo12⟩, fn12⟩
  | k + 13, h => simp at h
/-- a field's link: class own, entry idx, field k of class ci -/
def x_fs (own : String) (idx ci k : Nat) : Prop := ∃ q : vw_C, xcl[ci]? = some q ∧ k < q.2.2 ∧ Cond.fieldLink own idx (q.2.1 k).1 (q.2.1 k).2.1 (q.2.1 k).2.2.1 ∈ gw
/-- a value fits a type -/
def x_ok (ty : FieldType) (v : Value) : Prop := ∀ ad ex : Nat → Nat, narrow ty (x_v ad ex v) = x_v ad ex v ∧ fits ty (x_v ad ex v) = true
theorem x_okI {a : Int32} : x_ok .int (.int a) := fun _ _ => ⟨vp_nar_int a, rfl⟩
theorem x_ok0 : x_ok .boolean (.int 0) := fun _ _ => ⟨show narrow .boolean (.int 0) = .int 0 by decide, show fits .boolean (.int 0) = true by decide⟩
theorem x_ok1 : x_ok .boolean (.int 1) := fun _ _ => ⟨show narrow .boolean (.int 1) = .int 1 by decide, show fits .boolean (.int 1) = true by decide⟩
theorem x_okZ {a : Int32} (h : a = 0 ∨ a = 1) : x_ok .boolean (.int a) := by rcases h with rfl | rfl; exact x_ok0; exact x_ok1
theorem x_okR {C : String} {a : Nat} : x_ok (.object C) (.ref a) := fun _ _ => ⟨rfl, rfl⟩
theorem x_okA {t : FieldType} {a : Nat} : x_ok (.array t) (.ref a) := fun _ _ => ⟨rfl, rfl⟩
/-- field k of class ci: its type; not final (final) -/
def x_ft (ci k : Nat) (fin : Bool) (ty : FieldType) : Prop := ∃ q : vw_C, xcl[ci]? = some q ∧ (q.2.1 k).2.2.2 = fin ∧ parseFieldDescriptor (q.2.1 k).2.2.1 = some ty
theorem x_M.put {g : Bool} {ad ex : Nat → Nat} {dA : Nat → ClassId} {D : va_G} {A : Nat → Prop} {mem : List xM} {H H1 : Heap} {i : Nat} {q0 q : xM} (hM : x_M g ad ex dA D A mem H) (hi : ∀ i j : Nat, ad i = ad j → i = j) (hm : mem[i]? = some q0) (he : va_at D xcl (ad i, x_e ad ex dA q) H1) (z : H1.size = H.size) (oq : ∀ a : Nat, a ≠ ad i → H1[a]? = H[a]?) : x_M g ad ex dA D A (mem.set i q) H1 := by
  refine ⟨?_, fun j hj => hM.2.1 j (by rw [List.length_set] at hj; exact hj), fun hg => by rw [z, List.length_set]; exact hM.2.2 hg⟩
  rw [← x_w_set]
  exact hM.1.set (x_w_D hi hM.2.1) (x_w_at hm) he oq
section SJM
variable {g : Bool} {y : xY} {d pc : Nat} {L : List (Option Value)} {st : List Value} {mem : List xM} {bc bs : Nat} {Q : List xM → Option Value → Prop}
theorem x_I.put {ad ex : Nat → Nat} {dA : Nat → ClassId} {D : va_G} {A : Nat → Prop} {p : Program} {s : State} {m : MethodId} {args : Array Value} {meth : Method} {c : Code} {H H1 : Heap} {locs : List Loc} {cells slots : Nat} {ls : Array Slot} {mc ms : Nat} {i : Nat} {q0 q : xM}
    (hI : x_I g y ad ex dA D A p s m args meth c H locs cells slots ls mc ms L mem bc bs) (hm : mem[i]? = some q0) (k : Nat) (he : va_at D xcl (ad i, x_e ad ex dA q) H1) (z : H1.size = H.size) (oq : ∀ a : Nat, a ≠ ad i → H1[a]? = H[a]?) :
    x_I g y ad ex dA D A p s m args meth c H1 (locs ++ [⟨ad i, k⟩]) cells slots ls mc ms L (mem.set i q) bc bs :=
  ⟨hI.1, hI.2.1, hI.2.2.1.put hI.2.1.2.2.2.1 hm he z oq, hI.2.2.2.1.put z oq (hI.2.2.1.2.1 i (List.getElem?_eq_some_iff.mp hm).1), hI.2.2.2.2⟩
theorem j_getf {i ci k idx : Nat} {fs : List Value} {v : Value} (hd : decode y.2.1 pc = .ok (.getfield idx, 3)) (hf : x_fs y.1.cls idx ci k) (hm : mem[i]? = some (.inr (ci, fs))) (hv : fs[k]? = some v) (kk : SJ g y d (pc + 3) L (v :: st) mem bc bs Q) : SJ g y d pc L (.ref i :: st) mem bc bs Q := by
  intro l ad ex dA D A p e s m args below meth c H locs cells slots ls mc ms hI
  obtain ⟨q, hq, hk, hl⟩ := hf
  exact va_get (ci := ci) (C := q.1) (T := q.2.1) (N := q.2.2) hI.1.1 hI.1.2.1 hI.1.2.2.2.2.2.2.2 (x_cls hq).1 hI.1.2.2.2.2.2.1 hI.2.1.1 hI.2.2.1.1 i (x_w_at hm) hq k hk (hI.1.2.2.2.2.2.2.2 _ hl) (fun _ h => h) (by show (fs.map (x_v ad ex))[k]? = some (x_v ad ex v); rw [List.getElem?_map, hv]; rfl) hd (kk hI)
theorem j_putf {i ci k idx : Nat} {fs : List Value} {v : Value} {ty : FieldType} (hd : decode y.2.1 pc = .ok (.putfield idx, 3)) (hf : x_fs y.1.cls idx ci k) (ht : x_ft ci k false ty) (hm : mem[i]? = some (.inr (ci, fs))) (hl : k < fs.length) (hv : x_ok ty v) (kk : SJ g y d (pc + 3) L st (mem.set i (.inr (ci, fs.set k v))) bc bs Q) : SJ g y d pc L (v :: .ref i :: st) mem bc bs Q := by
  intro l ad ex dA D A p e s m args below meth c H locs cells slots ls mc ms hI
  obtain ⟨⟨C, T, N⟩, hq, hk, hlk⟩ := hf
  obtain ⟨q2, hq2, hfin, hty⟩ := ht
  cases hq.symm.trans hq2
  obtain ⟨hin, ⟨ty0, hty0⟩, hnm⟩ := x_cls hq
  have hts := hI.1.2.2.2.2.2.2.2
  have hK := hI.2.1.1
  have hap := va_apart (own := y.1.cls) hts hin ty0 hty0 hnm hK hq
  obtain ⟨r, h1, cell, q1, q2, q3, q4⟩ := hI.2.2.1.1 i _ (x_w_at hm)
  cases h1.symm.trans hq
  obtain ⟨hS, hfc, kC, hkC, hkind⟩ := hK.1 ci _ hq
  obtain ⟨cf, kf, fi, f, hi, hsl⟩ := hS k hk
  have hlay := hts _ (hin _ (u_in_lay hk))
  unfold u_lay at hlay
  rw [if_neg (by rw [hfin]; decide)] at hlay
  have hst := (u_facts hfc hkC (u_lays hts hin hk) hi).1
  have h6 := u_store hfc hkC hkind hlay hi hty (hv ad ex).1 (hv ad ex).2
  refine W.putK hI.1.1 hI.1.2.1 (f := f) ⟨hI.1.2.2.2.2.2.1, hts _ hlk, ⟨_, _, _, hi⟩, hst⟩ (by rw [q2]; exact h6) q1 q3 (by rw [hsl]; exact k2_hasslot (q4 k hk)) rfl rfl hd fun H' e1 e2 e3 => ?_
  rw [hsl] at e1 ⊢
  refine kk (hI.put hm _ ⟨_, hq, t_OB.to (V := updV (vp_V (fs.map (x_v ad ex))) k (x_v ad ex v)) ⟨_, e1, q2, q3, t_set q4 hap hk _⟩ (fun j _ => ?_)⟩ e2 e3)
  rw [List.map_set]
  exact vp_updV_set (by rw [List.length_map]; exact hl) _ j
/-- a final field, in its own constructor -/
theorem j_putF {i ci k idx : Nat} {fs : List Value} {v : Value} {ty : FieldType} (hd : decode y.2.1 pc = .ok (.putfield idx, 3)) (hf : x_fs y.1.cls idx ci k) (ht : x_ft ci k true ty) (hin2 : y.1.name = "<init>") (hdc : ∀ q : vw_C, xcl[ci]? = some q → (q.2.1 k).1 = y.1.cls) (hm : mem[i]? = some (.inr (ci, fs))) (hl : k < fs.length) (hv : x_ok ty v) (kk : SJ g y d (pc + 3) L st (mem.set i (.inr (ci, fs.set k v))) bc bs Q) : SJ g y d pc L (v :: .ref i :: st) mem bc bs Q := by
  intro l ad ex dA D A p e s m args below meth c H locs cells slots ls mc ms hI
  obtain ⟨⟨C, T, N⟩, hq, hk, hlk⟩ := hf
  obtain ⟨q2, hq2, hfin, hty⟩ := ht
  cases hq.symm.trans hq2
  obtain ⟨hin, ⟨ty0, hty0⟩, hnm⟩ := x_cls hq
  have hts := hI.1.2.2.2.2.2.2.2
  have hK := hI.2.1.1
  have hown := hI.1.2.2.2.2.2.1
  have hap := va_apart (own := y.1.cls) hts hin ty0 hty0 hnm hK hq
  obtain ⟨r, h1, cell, q1, q2, q3, q4⟩ := hI.2.2.1.1 i _ (x_w_at hm)
  cases h1.symm.trans hq
  obtain ⟨hS, hfc, kC, hkC, hkind⟩ := hK.1 ci _ hq
  obtain ⟨cf, kf, fi, f, hi, hsl⟩ := hS k hk
  have hlay := hts _ (hin _ (u_in_lay hk))
  unfold u_lay at hlay
  rw [if_pos hfin] at hlay
  have hst := (u_facts hfc hkC (u_lays hts hin hk) hi).1
  have hcf : m.cls = cf := by
    obtain ⟨_, _, c', _, _, _, -, -, hf', -, -, -, hown2, -⟩ := Cond.laysFinal_spec hlay
    have e1 : c' = cf := by have := hi.symm.trans hf'; simp at this; exact this.1.symm
    rw [hdc _ hq] at hown2
    rw [← e1]; exact Option.some.inj (hown.symm.trans hown2)
  have h6 := u_fits hfc hkC hkind (Or.inr hlay) hi hty (hv ad ex).1 (hv ad ex).2
  refine W.putFinK hI.1.1 hI.1.2.1 hown (hts _ hlk) hi hst hcf (hI.1.2.2.2.2.2.2.1.trans hin2) (by rw [q2]; exact h6) q1 q3 (by rw [hsl]; exact k2_hasslot (q4 k hk)) rfl rfl hd fun H' e1 e2 e3 => ?_
  rw [hsl] at e1 ⊢
  refine kk (hI.put hm _ ⟨_, hq, t_OB.to (V := updV (vp_V (fs.map (x_v ad ex))) k (x_v ad ex v)) ⟨_, e1, q2, q3, t_set q4 hap hk _⟩ (fun j _ => ?_)⟩ e2 e3)
  rw [List.map_set]
  exact vp_updV_set (by rw [List.length_map]; exact hl) _ j
theorem j_iald {i n : Nat} {f : Nat → Int32} {j : Int32} (hd : decode y.2.1 pc = .ok (.iaload, 1)) (hm : mem[i]? = some (.inl (0, n, .inl f))) (hj : vp_in j n) (kk : SJ g y d (pc + 1) L (.int (f j.toNatClampNeg) :: st) mem bc bs Q) : SJ g y d pc L (.int j :: .ref i :: st) mem bc bs Q := by
  intro l ad ex dA D A p e s m args below meth c H locs cells slots ls mc ms hI
  exact va_iald (n := n) (f := f) hI.1.1 hI.1.2.1 hI.2.1.1 hI.2.2.1.1 i 0 (x_w_at hm) rfl hj hd (kk hI)
theorem j_bald {i n : Nat} {f : Nat → Int32} {j : Int32} (hd : decode y.2.1 pc = .ok (.baload, 1)) (hm : mem[i]? = some (.inl (1, n, .inl f))) (hj : vp_in j n) (kk : SJ g y d (pc + 1) L (.int (f j.toNatClampNeg) :: st) mem bc bs Q) : SJ g y d pc L (.int j :: .ref i :: st) mem bc bs Q := by
  intro l ad ex dA D A p e s m args below meth c H locs cells slots ls mc ms hI
  exact va_bald (n := n) (f := f) hI.1.1 hI.1.2.1 hI.2.1.1 hI.2.2.1.1 i 1 (x_w_at hm) rfl hj hd (kk hI)
theorem j_zald {i n : Nat} {f : Nat → Int32} {j : Int32} (hd : decode y.2.1 pc = .ok (.baload, 1)) (hm : mem[i]? = some (.inl (2, n, .inl f))) (hj : vp_in j n) (kk : SJ g y d (pc + 1) L (.int (f j.toNatClampNeg) :: st) mem bc bs Q) : SJ g y d pc L (.int j :: .ref i :: st) mem bc bs Q := by
  intro l ad ex dA D A p e s m args below meth c H locs cells slots ls mc ms hI
  exact va_zald (n := n) (f := f) hI.1.1 hI.1.2.1 hI.2.1.1 hI.2.2.1.1 i 2 (x_w_at hm) rfl hj hd (kk hI)
theorem j_cald {i n : Nat} {f : Nat → Int32} {j : Int32} (hd : decode y.2.1 pc = .ok (.caload, 1)) (hm : mem[i]? = some (.inl (4, n, .inl f))) (hj : vp_in j n) (kk : SJ g y d (pc + 1) L (.int (f j.toNatClampNeg) :: st) mem bc bs Q) : SJ g y d pc L (.int j :: .ref i :: st) mem bc bs Q := by
  intro l ad ex dA D A p e s m args below meth c H locs cells slots ls mc ms hI
  exact va_cald (n := n) (f := f) hI.1.1 hI.1.2.1 hI.2.1.1 hI.2.2.1.1 i 4 (x_w_at hm) rfl hj hd (kk hI)
theorem j_lald {i n : Nat} {f : Nat → Int64} {j : Int32} (hd : decode y.2.1 pc = .ok (.laload, 1)) (hm : mem[i]? = some (.inl (3, n, .inr (.inl f)))) (hj : vp_in j n) (kk : SJ g y d (pc + 1) L (.long (f j.toNatClampNeg) :: st) mem bc bs Q) : SJ g y d pc L (.int j :: .ref i :: st) mem bc bs Q := by
  intro l ad ex dA D A p e s m args below meth c H locs cells slots ls mc ms hI
  exact va_lald (n := n) (f := f) hI.1.1 hI.1.2.1 hI.2.1.1 hI.2.2.1.1 i 3 (x_w_at hm) rfl hj hd (kk hI)
theorem j_tld {j0 : Nat} {j : Int32} (hj0 : j0 < 3) (hd : decode y.2.1 pc = .ok (.iaload, 1)) (hj : vp_in j 3) (kk : SJ g y d (pc + 1) L (.int (x_st j0 j.toNatClampNeg) :: st) mem bc bs Q) : SJ g y d pc L (.int j :: .retAddr j0 :: st) mem bc bs Q := by
  intro l ad ex dA D A p e s m args below meth c H locs cells slots ls mc ms hI
  exact va_ti hI.1.1 hI.1.2.1 (hI.2.1.2.1.1 j0 hj0).2 hI.2.2.2.1 hj rfl hd (kk hI)
theorem j_gets {j0 idx : Nat} (hj0 : j0 < 3) (hd : decode y.2.1 pc = .ok (.getstatic idx, 3)) (hw : Cond.fieldLink y.1.cls idx "BracketHouse" (x_sn j0) "[I" ∈ gw) (kk : SJ g y d (pc + 3) L (.retAddr j0 :: st) mem bc bs Q) : SJ g y d pc L st mem bc bs Q := by
  intro l ad ex dA D A p e s m args below meth c H locs cells slots ls mc ms hI
  exact va_gets hI.1.1 hI.1.2.1 (hI.2.1.2.1.1 j0 hj0).1 hI.2.2.2.1 hI.1.2.2.2.2.2.1 (hI.1.2.2.2.2.2.2.2 _ hw) (fun _ h => h) hd (kk hI)
theorem j_alen {i t : Nat} {x : vp_A} {v : Int32} (hd : decode y.2.1 pc = .ok (.arraylength, 1)) (hm : mem[i]? = some (.inl (t, x))) (ht : t < 9) (hv : Int32.ofNat x.1 = v) (kk : SJ g y d (pc + 1) L (.int v :: st) mem bc bs Q) : SJ g y d pc L (.ref i :: st) mem bc bs Q := by
  intro l ad ex dA D A p e s m args below meth c H locs cells slots ls mc ms hI
  have hn : (x_a ad x).1 = x.1 := by
    obtain ⟨n, f | f | f | f | f⟩ := x <;> rfl
  have htt : ∃ ty, (x_ty dA)[t]? = some (dA t, ty) := by
    match t, ht with
    | 0, _ => exact ⟨_, rfl⟩
    | 1, _ => exact ⟨_, rfl⟩
    | 2, _ => exact ⟨_, rfl⟩
    | 3, _ => exact ⟨_, rfl⟩
    | 4, _ => exact ⟨_, rfl⟩
    | 5, _ => exact ⟨_, rfl⟩
    | 6, _ => exact ⟨_, rfl⟩
    | 7, _ => exact ⟨_, rfl⟩
    | 8, _ => exact ⟨_, rfl⟩
    | k + 9, h => exact absurd h (by omega)
  obtain ⟨ty, hty⟩ := htt
  exact va_alen hI.1.1 hI.1.2.1 hI.2.1.1 hI.2.2.1.1 i t (x_w_at hm) hty (by rw [hn]; exact hv) hd (kk hI)
theorem j_iast {i n : Nat} {f : Nat → Int32} {j : Int32} {x : Int32} (hd : decode y.2.1 pc = .ok (.iastore, 1)) (hm : mem[i]? = some (.inl (0, n, .inl f))) (hj : vp_in j n) (kk : SJ g y d (pc + 1) L st (mem.set i (.inl (0, n, .inl (upd f j.toNatClampNeg x)))) bc bs Q) : SJ g y d pc L (.int x :: .int j :: .ref i :: st) mem bc bs Q := by
  intro l ad ex dA D A p e s m args below meth c H locs cells slots ls mc ms hI
  have hP : va_P D xcl (x_w ad ex dA mem) H := hI.2.2.1.1
  refine W.iast hI.1.1 hI.1.2.1 (hP i _ (x_w_at hm)) ((hI.2.1.1.2 0 _ rfl).1 n (fun j => .int (f j))) (fun q => by cases q) (by show ¬ (j < 0 ∨ (arrV _ _ _).slots.size ≤ _); rw [arrV_size]; exact hj) rfl rfl hd fun H1 e z oq => ?_
  refine kk (hI.put hm _ ?_ z oq)
  show H1[ad i]? = some (vp_cell _ _)
  rw [e]
  show some ((vp_cell _ (n, .inl f)).setSlot _ _) = some (vp_cell _ (n, .inl (upd f j.toNatClampNeg x)))
  rw [vp_cell_i, vp_cell_i, arrV_store]
  congr 2
  funext q
  by_cases hq : q = j.toNatClampNeg
  · subst hq
    simp [updV, upd]
    try rfl
  · simp [updV, upd, hq]
theorem j_bast {i n : Nat} {f : Nat → Int32} {j : Int32} {x : Int32} (hd : decode y.2.1 pc = .ok (.bastore, 1)) (hm : mem[i]? = some (.inl (1, n, .inl f))) (hj : vp_in j n) (kk : SJ g y d (pc + 1) L st (mem.set i (.inl (1, n, .inl (upd f j.toNatClampNeg (vp_nar .byte x))))) bc bs Q) : SJ g y d pc L (.int x :: .int j :: .ref i :: st) mem bc bs Q := by
  intro l ad ex dA D A p e s m args below meth c H locs cells slots ls mc ms hI
  have hP : va_P D xcl (x_w ad ex dA mem) H := hI.2.2.1.1
  refine W.bast hI.1.1 hI.1.2.1 (hP i _ (x_w_at hm)) ((hI.2.1.1.2 1 _ rfl).1 n (fun j => .int (f j))) (fun q => by cases q) (by show ¬ (j < 0 ∨ (arrV _ _ _).slots.size ≤ _); rw [arrV_size]; exact hj) rfl rfl hd fun H1 e z oq => ?_
  refine kk (hI.put hm _ ?_ z oq)
  show H1[ad i]? = some (vp_cell _ _)
  rw [e]
  show some ((vp_cell _ (n, .inl f)).setSlot _ _) = some (vp_cell _ (n, .inl (upd f j.toNatClampNeg (vp_nar .byte x))))
  rw [vp_cell_i, vp_cell_i, arrV_store]
  congr 2
  funext q
  by_cases hq : q = j.toNatClampNeg
  · subst hq
    simp [updV, upd, vp_nar]
    try rfl
  · simp [updV, upd, hq]
theorem j_zast {i n : Nat} {f : Nat → Int32} {j : Int32} {x : Int32} (hd : decode y.2.1 pc = .ok (.bastore, 1)) (hm : mem[i]? = some (.inl (2, n, .inl f))) (hj : vp_in j n) (kk : SJ g y d (pc + 1) L st (mem.set i (.inl (2, n, .inl (upd f j.toNatClampNeg (vp_nar .boolean x))))) bc bs Q) : SJ g y d pc L (.int x :: .int j :: .ref i :: st) mem bc bs Q := by
  intro l ad ex dA D A p e s m args below meth c H locs cells slots ls mc ms hI
  have hP : va_P D xcl (x_w ad ex dA mem) H := hI.2.2.1.1
  refine W.zast hI.1.1 hI.1.2.1 (hP i _ (x_w_at hm)) ((hI.2.1.1.2 2 _ rfl).1 n (fun j => .int (f j))) (fun q => by cases q) (by show ¬ (j < 0 ∨ (arrV _ _ _).slots.size ≤ _); rw [arrV_size]; exact hj) rfl rfl hd fun H1 e z oq => ?_
  refine kk (hI.put hm _ ?_ z oq)
  show H1[ad i]? = some (vp_cell _ _)
  rw [e]
  show some ((vp_cell _ (n, .inl f)).setSlot _ _) = some (vp_cell _ (n, .inl (upd f j.toNatClampNeg (vp_nar .boolean x))))
  rw [vp_cell_i, vp_cell_i, arrV_store]
  congr 2
  funext q
  by_cases hq : q = j.toNatClampNeg
  · subst hq
    simp [updV, upd, vp_nar]
    try rfl
  · simp [updV, upd, hq]
theorem j_last {i n : Nat} {f : Nat → Int64} {j : Int32} {x : Int64} (hd : decode y.2.1 pc = .ok (.lastore, 1)) (hm : mem[i]? = some (.inl (3, n, .inr (.inl f)))) (hj : vp_in j n) (kk : SJ g y d (pc + 1) L st (mem.set i (.inl (3, n, .inr (.inl (vp_updL f j.toNatClampNeg x))))) bc bs Q) : SJ g y d pc L (.long x :: .int j :: .ref i :: st) mem bc bs Q := by
  intro l ad ex dA D A p e s m args below meth c H locs cells slots ls mc ms hI
  have hP : va_P D xcl (x_w ad ex dA mem) H := hI.2.2.1.1
  refine W.last hI.1.1 hI.1.2.1 (hP i _ (x_w_at hm)) ((hI.2.1.1.2 3 _ rfl).1 n (fun j => .long (f j))) (fun q => by cases q) (by show ¬ (j < 0 ∨ (arrV _ _ _).slots.size ≤ _); rw [arrV_size]; exact hj) rfl rfl hd fun H1 e z oq => ?_
  refine kk (hI.put hm _ ?_ z oq)
  show H1[ad i]? = some (vp_cell _ _)
  rw [e]
  show some ((vp_cell _ (n, .inr (.inl f))).setSlot _ _) = some (vp_cell _ (n, .inr (.inl (vp_updL f j.toNatClampNeg x))))
  rw [vp_cell_l, vp_cell_l, arrV_store]
  congr 2
  funext q
  by_cases hq : q = j.toNatClampNeg
  · subst hq
    simp [updV, vp_updL]
    try rfl
  · simp [updV, vp_updL, hq]
theorem x_rf_map {ad ex : Nat → Nat} (o : Option Nat) : va_rf (o.map ad) = x_v ad ex (va_rf o) := by cases o <;> rfl
theorem j_aald {i n t : Nat} {f : Nat → Option Nat} {j : Int32} (hd : decode y.2.1 pc = .ok (.aaload, 1)) (hm : mem[i]? = some (.inl (t, n, .inr (.inr (.inr (.inr f)))))) (ht : t = 5 ∨ t = 6 ∨ t = 7 ∨ t = 8) (hj : vp_in j n) (kk : SJ g y d (pc + 1) L (va_rf (f j.toNatClampNeg) :: st) mem bc bs Q) : SJ g y d pc L (.int j :: .ref i :: st) mem bc bs Q := by
  intro l ad ex dA D A p e s m args below meth c H locs cells slots ls mc ms hI
  have hP : va_P D xcl (x_w ad ex dA mem) H := hI.2.2.1.1
  have hlt : j.toNatClampNeg < n := Nat.not_le.mp fun q => hj (Or.inr q)
  have h : H[ad i]? = some (arrV (dA t) n (fun j => va_rf ((f j).map ad))) := hP i _ (x_w_at hm)
  have hK := hI.2.1.1
  have k2 := kk (l := l) (e := e) (below := below) hI
  rw [List.map_cons, ← x_rf_map] at k2
  have key : ∀ ty : FieldType, ty.isReference = true → (x_ty dA)[t]? = some (dA t, ty) → W p l e (x_rm d mc ms) s m args below meth c H locs cells slots (MQ below (x_Q g ad ex dA D A Q) args s mc ms A) (F0 m pc ls ((.int j :: .ref i :: st).map (x_v ad ex))) := by
    intro ty hr hty
    exact W.aald (v := va_rf ((f j.toNatClampNeg).map ad)) (ty := ty) hI.1.1 hI.1.2.1 h ((hK.2 t _ hty).1 n (fun j => va_rf ((f j).map ad))) hr (fun q => by cases q) (by show ¬ (j < 0 ∨ (arrV _ _ _).slots.size ≤ _); rw [arrV_size]; exact hj) (by rw [arrV_read _ _ hlt]) rfl rfl hd k2
  rcases ht with rfl | rfl | rfl | rfl
  · exact key _ rfl rfl
  · exact key _ rfl rfl
  · exact key _ rfl rfl
  · exact key _ rfl rfl
/-- what the tables say of a call: from class own by entry idx of method y2, n arguments -/
def x_cb (own : String) (idx : Nat) (y2 : xY) (n : Nat) : Prop := Cond.code y2.1 y2.2.1 y2.2.2.1 y2.2.2.2 ∈ gw ∧ Cond.initialized y2.1.cls ∈ gw ∧ Cond.methodLink own idx y2.1 ∈ gw ∧ (y2.1.cls ≠ "java/lang/invoke/MethodHandle" ∧ y2.1.cls ≠ "java/lang/invoke/VarHandle" ∧ (parseMethodDescriptor y2.1.desc).map (fun d => d.parameters.length) = some n) ∧ y2.2.2.1 ≤ 40
def x_cv (own : String) (idx : Nat) (y2 : xY) (n : Nat) : Prop := x_cb own idx y2 n ∧ Cond.instanceMethod y2.1 ∈ gw ∧ Cond.selects y2.1.cls y2.1 y2.1 ∈ gw
def x_cs (own : String) (idx : Nat) (y2 : xY) (n : Nat) : Prop := x_cb own idx y2 n ∧ Cond.static y2.1 ∈ gw
def x_ci (own : String) (idx : Nat) (y2 : xY) (n : Nat) : Prop := x_cb own idx y2 n ∧ y2.1.name = "<init>" ∧ y2.2.2.2 = none ∧ Cond.instanceMethod y2.1 ∈ gw
theorem x_good (y2 : xY) (h : Cond.code y2.1 y2.2.1 y2.2.2.1 y2.2.2.2 ∈ gw) : GoodIn gw (x_ws y2) := fun w hw => by
  rcases List.mem_cons.mp hw with rfl | hw
  · exact gw_good _ h
  · exact gw_good _ hw
theorem x_callB {own : String} {idx n d mc ms mc2 ms2 : Nat} {y2 : xY} {s : State} {args : Array Value} (h : x_cb own idx y2 n) (hts : ∀ w ∈ gw, w.before args s = true) : CallB (x_rm (d + 1) mc ms) s args own idx y2.1 y2.2.1 y2.2.2.1 y2.2.2.2 (x_ws y2) (x_rm d mc2 ms2) mc2 ms2 n := by
  obtain ⟨h1, h2, h3, h4, h5⟩ := h
  exact callB_of n hts (x_good y2 h1) rfl rfl rfl (hts _ h2) (hts _ h3) h4 ⟨Nat.le_refl _, by show 8 + (y2.2.2.1 + 11) + 64 * d ≤ 64 * (d + 1); omega⟩
theorem x_blind {ad ex : Nat → Nat} {dA : Nat → ClassId} {D : va_G} {A : Nat → Prop} {as : List Value} : FrameBlind (x_P g ad ex dA D A as mem) := fun a U f mk h => ⟨h.1, h.2.1.calling, h.2.2⟩
/-- behind a call -/
theorem x_run {ad ex : Nat → Nat} {dA : Nat → ClassId} {D : va_G} {A : Nat → Prop} {p : Program} {l : Launch} {e : Env} {s : State} {m : MethodId} {args : Array Value} {below : List Frame} {meth : Method} {c : Code} {H : Heap} {locs : List Loc} {cells slots : Nat} {ls : Array Slot} {mc ms mc2 ms2 : Nat} {st0 rest : List Value} {a : Array Value} {Q2 : List xM → Option Value → Prop}
    (hI : x_I g y ad ex dA D A p s m args meth c H locs cells slots ls mc ms L mem bc bs) (hb1 : mc2 ≤ bc) (hb2 : ms2 ≤ bs)
    (hr : va_Run p l e (x_rm d mc ms) s m args below meth c H locs cells slots mc2 ms2 (F0 m pc ls st0) (rest.map (x_v ad ex)) (x_Q g ad ex dA D A Q2 a) A)
    (kk : ∀ (mem2 : List xM) (r : Option Value), Q2 mem2 r → SJ g y d (pc + 3) L (r.toList ++ rest) mem2 (bc - mc2) (bs - ms2) Q) :
    W p l e (x_rm d mc ms) s m args below meth c H locs cells slots (MQ below (x_Q g ad ex dA D A Q) args s mc ms A) (F0 m pc ls st0) := by
  intro T hT X
  obtain ⟨v, st₀, t, T', L2, h0, X', hL, e1, e2, ⟨⟨mem2, r, hv, hq, hM⟩, hz, hk⟩, stp⟩ := hr T hT X
  cases hv
  rw [h0] at hz hk
  have hS := hI.2.2.2.1
  have hS2 : va_S A s.heap T'.heap (locs ++ L2) := ⟨Nat.le_trans hS.1 (by rw [e1]; exact hz), fun q h1 h2 => by rw [e1, hk q (Nat.lt_of_lt_of_le h1 hS.1) h2]; exact hS.2.1 q h1 h2, fun q hq => by
      rcases List.mem_append.mp hq with h | h
      · exact hS.2.2 q h
      · exact hL q h⟩
  have hc1 := hI.2.2.2.2.2.1
  have hc2 := hI.2.2.2.2.2.2
  obtain ⟨t2, a1, b1⟩ := kk mem2 r hq (H := T'.heap) (locs := locs ++ L2) (cells := cells + mc2) (slots := slots + ms2) ⟨hI.1, hI.2.1, by rw [e1]; exact hM, hS2, hI.2.2.2.2.1, by omega, by omega⟩ T' rfl X'
  refine ⟨t2, stp t2 ?_, b1⟩
  cases r with
  | none => exact a1
  | some w => exact a1
theorem x_pre {ad ex : Nat → Nat} {dA : Nat → ClassId} {D : va_G} {A : Nat → Prop} {p : Program} {s : State} {m : MethodId} {args : Array Value} {meth : Method} {c : Code} {H : Heap} {locs : List Loc} {cells slots : Nat} {ls : Array Slot} {mc ms : Nat} {as : List Value}
    (hI : x_I g y ad ex dA D A p s m args meth c H locs cells slots ls mc ms L mem bc bs) (U : State) (hU : U.heap = H) (hW : s.WarmedH U.vm) : x_P g ad ex dA D A as mem (as.map (x_v ad ex)).toArray U :=
  ⟨rfl, hI.2.1.moved hI.2.2.2.1 hU hW, by rw [hU]; exact hI.2.2.1⟩
theorem j_callV {y2 : xY} {i ci idx n mc2 ms2 : Nat} {fs as : List Value} {st0 : List Value} (hd : decode y.2.1 pc = .ok (.invokevirtual idx, 3)) (hc : x_cv y.1.cls idx y2 n) (hm : mem[i]? = some (.inr (ci, fs))) (hci : ∃ q : vw_C, xcl[ci]? = some q ∧ q.1 = y2.1.cls) (hst : st0 = as.reverse ++ .ref i :: st) (hn : as.length = n) (hcat : (st.map fun v => v.category).sum ≤ 8) (hb1 : mc2 ≤ bc) (hb2 : ms2 ≤ bs)
    (kk : CT g y2 d (.ref i :: as) mem mc2 ms2 (fun mem2 r => SJ g y (d + 1) (pc + 3) L (r.toList ++ st) mem2 (bc - mc2) (bs - ms2) Q)) : SJ g y (d + 1) pc L st0 mem bc bs Q := by
  intro l ad ex dA D A p e s m args below meth c H locs cells slots ls mc ms hI
  subst hst
  obtain ⟨q, hq, hqc⟩ := hci
  have hts := hI.1.2.2.2.2.2.2.2
  have hc1 := hI.2.2.2.2.2.1
  have hc2 := hI.2.2.2.2.2.2
  have hcats : ((st.map (x_v ad ex)).map fun v => v.category).sum ≤ 8 := by
    rw [List.map_map, show ((fun v : Value => v.category) ∘ x_v ad ex) = (fun v : Value => v.category) from funext fun v => x_v_cat v]
    exact hcat
  have hrv : ∃ cell : Cell, H[ad i]? = some cell ∧ cell.vm.isStatics = false ∧ s.vm.findClass y2.1.cls = some cell.cls := by
    rw [← hqc]
    exact va_recv hI.2.1.1 hI.2.2.1.1 hq (x_w_at hm)
  refine x_run (rest := st) hI hb1 hb2 (va_runV (C := y2.1.cls) (b := ad i) (As := as.map (x_v ad ex)) (nL := y.2.2.1) (Ts := gw) (own := y.1.cls) ⟨hI.1.1, hI.1.2.1, hI.1.2.2.2.2.1, hI.1.2.2.2.2.2.1, hts⟩ (kk (l := l) (ad := ad) (ex := ex) (dA := dA) (D := D) (A := A)) ⟨x_callB hc.1 hts, hts _ hc.2.1, hts _ hc.2.2⟩ ⟨x_blind, hrv, fun U hU hW => x_pre hI U hU hW⟩ rfl (by rw [List.length_map]; exact hn) hI.2.2.2.2.1.1 (by simp [List.map_append, List.map_reverse, x_v]) (lv_room hcats) hd ⟨?_, ?_⟩) (fun mem2 r h => h)
  · show cells + mc2 ≤ mc
    omega
  · show slots + ms2 ≤ ms
    omega
theorem j_callS {y2 : xY} {idx n mc2 ms2 : Nat} {as : List Value} {st0 : List Value} (hd : decode y.2.1 pc = .ok (.invokestatic idx, 3)) (hc : x_cs y.1.cls idx y2 n) (hst : st0 = as.reverse ++ st) (hn : as.length = n) (hcat : (st.map fun v => v.category).sum ≤ 8) (hb1 : mc2 ≤ bc) (hb2 : ms2 ≤ bs)
    (kk : CT g y2 d as mem mc2 ms2 (fun mem2 r => SJ g y (d + 1) (pc + 3) L (r.toList ++ st) mem2 (bc - mc2) (bs - ms2) Q)) : SJ g y (d + 1) pc L st0 mem bc bs Q := by
  intro l ad ex dA D A p e s m args below meth c H locs cells slots ls mc ms hI
  subst hst
  have hts := hI.1.2.2.2.2.2.2.2
  have hc1 := hI.2.2.2.2.2.1
  have hc2 := hI.2.2.2.2.2.2
  have hcats : ((st.map (x_v ad ex)).map fun v => v.category).sum ≤ 8 := by
    rw [List.map_map, show ((fun v : Value => v.category) ∘ x_v ad ex) = (fun v : Value => v.category) from funext fun v => x_v_cat v]
    exact hcat
  refine x_run (rest := st) hI hb1 hb2 (va_runS (As := as.map (x_v ad ex)) (nL := y.2.2.1) (Ts := gw) (own := y.1.cls) ⟨hI.1.1, hI.1.2.1, hI.1.2.2.2.2.1, hI.1.2.2.2.2.2.1, hts⟩ (kk (l := l) (ad := ad) (ex := ex) (dA := dA) (D := D) (A := A)) ⟨x_callB hc.1 hts, hts _ hc.2⟩ ⟨x_blind, fun U hU hW => x_pre hI U hU hW⟩ rfl (by rw [List.length_map]; exact hn) hI.2.2.2.2.1.1 (by simp [List.map_append, List.map_reverse]) (lv_room hcats) hd ⟨?_, ?_⟩) (fun mem2 r h => h)
  · show cells + mc2 ≤ mc
    omega
  · show slots + ms2 ≤ ms
    omega
theorem j_callI {y2 : xY} {i idx n mc2 ms2 : Nat} {as : List Value} {st0 : List Value} (hd : decode y.2.1 pc = .ok (.invokespecial idx, 3)) (hc : x_ci y.1.cls idx y2 n) (hst : st0 = as.reverse ++ .ref i :: st) (hn : as.length = n) (hcat : (st.map fun v => v.category).sum ≤ 8) (hb1 : mc2 ≤ bc) (hb2 : ms2 ≤ bs)
    (kk : CT g y2 d (.ref i :: as) mem mc2 ms2 (fun mem2 r => SJ g y (d + 1) (pc + 3) L (r.toList ++ st) mem2 (bc - mc2) (bs - ms2) Q)) : SJ g y (d + 1) pc L st0 mem bc bs Q := by
  intro l ad ex dA D A p e s m args below meth c H locs cells slots ls mc ms hI
  subst hst
  have hts := hI.1.2.2.2.2.2.2.2
  have hc1 := hI.2.2.2.2.2.1
  have hc2 := hI.2.2.2.2.2.2
  have hcats : ((st.map (x_v ad ex)).map fun v => v.category).sum ≤ 8 := by
    rw [List.map_map, show ((fun v : Value => v.category) ∘ x_v ad ex) = (fun v : Value => v.category) from funext fun v => x_v_cat v]
    exact hcat
  have hcb := x_callB (d := d) (mc := mc) (ms := ms) (mc2 := mc2) (ms2 := ms2) hc.1 hts
  rw [hc.2.2.1] at hcb
  refine x_run (rest := st) hI hb1 hb2 (va_runI (b := ad i) (As := as.map (x_v ad ex)) (nL := y.2.2.1) (Ts := gw) (own := y.1.cls) ⟨hI.1.1, hI.1.2.1, hI.1.2.2.2.2.1, hI.1.2.2.2.2.2.1, hts⟩ (kk (l := l) (ad := ad) (ex := ex) (dA := dA) (D := D) (A := A)) ⟨hcb, hc.2.1, hts _ hc.2.2.2⟩ ⟨x_blind, fun U hU hW => x_pre hI U hU hW⟩ rfl (by rw [List.length_map]; exact hn) hI.2.2.2.2.1.1 (by simp [List.map_append, List.map_reverse, x_v]) (lv_room hcats) hd ⟨?_, ?_⟩) (fun mem2 r h => h)
  · show cells + mc2 ≤ mc
    omega
  · show slots + ms2 ≤ ms
    omega
end SJM
