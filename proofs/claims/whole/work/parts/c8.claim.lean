/-! THE CLAIM OUT OF ONE WALK OF THE LAW'S BODY. Your part is whole_start (and what it stands on); all else here is the same for every law, but numbers. -/
def R_law : String := "BracketHouseLaw"
def lw_P (b : Addr) (xs : List Int32) (args : Array Value) (s : State) : Prop := args = #[.ref b] ∧ s.IntsAt b xs ∧ xs.length ≤ 3072 ∧ (Jvm.Cond.and given_1 narrow_1).before args s = true
def lw_Q (_ : Array Value) (s : State) (o : Outcome) (t : State) : Prop := o = .returned (some (.int 1)) ∧ Framed s o t [] 600000 7302249
def lw_Z (below : List Frame) (a : Array Value) (s : State) : State → Prop := fun t => ∃ o, t.status = .running ∧ Ended t below o ∧ lw_Q a s o t
/-- the law's own end, with 1 on the stack, nothing written that was there before, its room as the claim has it -/
theorem lw_ret {p : Program} {l : Launch} {e : Env} {s : State} {m : MethodId} {below : List Frame} {meth : Method} {c : Code} {b : Nat} (hx : p.tables.exec = Jvm.exec) (hb : c.code = code) (hr : meth.sig.returnType = ret) (hlocks : meth.locks = false) {pc : Nat} {H : Heap} {ls : Array Slot} (hdg : decode code pc = .ok (.ireturn, 1)) : W p l e room_1 s m #[Value.ref b] below meth c H [] 600000 7302249 (lw_Z below #[Value.ref b] s) (F0 m pc ls [.int 1]) := by
  intro T hT X
  obtain ⟨fs, hret, hrun, hended, hW, hframe⟩ := X.leave (v := some (.int 1)) (hlocks := hlocks) (fun h => by rw [hr] at h; cases h)
  have hmeth' : T.vm.method? m = some meth := X.method'
  refine ⟨T.setFrames fs, ?_, .returned (some (.int 1)), hrun, hended, rfl, ⟨_, rfl⟩, hW, hframe⟩
  jvm_step X.here [X.here.top, hx, hb, hdg, hmeth', hr, ret, narrow_b1]
  (try refine ⟨rfl, ?_⟩); (try refine ⟨rfl, ?_⟩)
  first | (intro acts; rw [hret _ acts rfl rfl rfl]) | rw [hret _ _ rfl rfl rfl]
  exact Steps.refl _
/-- what holds at the law's entry: the machine, the code, the tables' words (any of lw_tbl by 'hts w (by decide +kernel)'), the script of L ints xs at the cell b, what the Statement gives of the start (any of its parts by flat_of_before) -/
def lw_At (p : Program) (s : State) (m : MethodId) (meth : Method) (c : Code) (b L : Nat) (xs : Nat → Int32) : Prop :=
  p.tables.exec = Jvm.exec ∧ c.code = code ∧ meth.sig.returnType = ret ∧ c.maxLocals = 4 ∧ s.vm.findClass R_law = some m.cls ∧ (∀ w ∈ lw_tbl, w.before #[Value.ref b] s = true) ∧ va_X b L xs s s.heap ∧ b < s.heap.size ∧ meth.locks = false ∧ (Jvm.Cond.and given_1 narrow_1).before #[Value.ref b] s = true
theorem room_low {s : State} {pl : Platform} (h : s.hasRoom pl room_1 = true) : s.hasRoom pl (x_rm (1219 + 93) 600000 7302249) = true := by
  unfold State.hasRoom at h ⊢
  simp only [Bool.and_eq_true, decide_eq_true_eq] at h ⊢
  obtain ⟨⟨⟨⟨h1, h2, h3, h4, h5, h6⟩, h7⟩, h8⟩, h9⟩ := h
  have e1 : room_1.locals = 84000 := rfl
  have e2 : room_1.frames = 2048 := rfl
  have e3 : room_1.cells = 600000 := rfl
  have e4 : room_1.slots = 7302249 := rfl
  rw [e1] at h1 h4 h5
  rw [e2] at h2 h3
  rw [e3] at h7
  rw [e4] at h8
  have f1 : (x_rm (1219 + 93) 600000 7302249).locals = 83968 := rfl
  have f2 : (x_rm (1219 + 93) 600000 7302249).frames = 1312 := rfl
  have f3 : (x_rm (1219 + 93) 600000 7302249).cells = 600000 := rfl
  have f4 : (x_rm (1219 + 93) 600000 7302249).slots = 7302249 := rfl
  rw [f1, f2, f3, f4]
  exact ⟨⟨⟨⟨by omega, by omega, by omega, by omega, by omega, h6⟩, h7⟩, h8⟩, h9⟩
set_option maxHeartbeats 4000000 in
theorem whole_start {p : Program} {e : Env} {s : State} {m : MethodId} {below : List Frame} {meth : Method} {c : Code} (l : Launch) (hname : meth.name = "law") {b L : Nat} {xs : Nat → Int32} (hL : L ≤ 3072) (C0 : lw_At p s m meth c b L xs) : W p l e room_1 s m #[Value.ref b] below meth c s.heap [] 0 0 (lw_Z below #[Value.ref b] s) (entryFrame m ([Value.ref b] : List Value).toArray 4) := by
  obtain ⟨hx, hb, hr, hml, hown, hts, hX, hbl, hlocks, hgv⟩ := id C0
  have hs := flat_of_before _ hgv
  have hA : ∀ a : Nat, a < s.heap.size → ¬ (fun q : Nat => s.heap.size ≤ q) a := fun a ha => Nat.not_le.mpr ha
  obtain ⟨D, hD⟩ := st_cls hts
  obtain ⟨dA, hdA⟩ := st_arr hts
  obtain ⟨t0, z0, y0⟩ := st_t0 hts hs hA
  obtain ⟨t1, z1, y1⟩ := st_t1 hts hs hA
  obtain ⟨t2, z2, y2⟩ := st_t2 hts hs hA
  obtain ⟨t4, t5, r1, r2, r3, r4, r5⟩ := st_str hts hs hA
  obtain ⟨⟨n1, n2, n3, n4⟩, n5, n6⟩ := st_nw hts hs hA
  obtain ⟨bt, hbt⟩ : ∃ bt : Nat → Nat, ∀ k, Int32.ofNat (bt k) = xs k := ⟨fun k => (bits_of (xs k)).choose, fun k => (bits_of (xs k)).choose_spec⟩
  obtain ⟨ex, e0, e1, e2, e3, e4, e5, e6, e7⟩ : ∃ ex : Nat → Nat, ex 0 = t0 ∧ ex 1 = t1 ∧ ex 2 = t2 ∧ ex 3 = b ∧ ex 4 = t4 ∧ ex 5 = t5 ∧ ex 6 = L ∧ ∀ k, ex (7 + k) = bt k :=
    ⟨fun n => if n < 7 then [t0, t1, t2, b, t4, t5, L].getD n 0 else bt (n - 7), rfl, rfl, rfl, rfl, rfl, rfl, rfl, fun k => by
      show (if 7 + k < 7 then _ else bt (7 + k - 7)) = bt k
      rw [if_neg (by omega), show 7 + k - 7 = k by omega]⟩
  have hT3 : va_T .int (ex 3) (ex 6) (fun k => .int (Int32.ofNat (ex (7 + k)))) (fun q : Nat => s.heap.size ≤ q) s s.heap := by
    obtain ⟨scr, x1, x2, x3, x4, x5⟩ := hX
    rw [e3, e6]
    refine ⟨scr, x1, x2, x3, Nat.le_of_eq x4.symm, by rw [x4], fun j hj => ?_, hA b hbl⟩
    show scr.slots[j]? = some (.int (Int32.ofNat (ex (7 + j))))
    rw [x5 j hj, e7, hbt]
  have hXX : x_X ex (fun q : Nat => s.heap.size ≤ q) s s.heap := by
    refine ⟨fun j hj => ?_, hT3, by rw [e4]; exact r1, by rw [e4]; exact r2, by rw [e4]; exact r3, by rw [e4, e5]; exact r4, by rw [e5]; exact r5, n1, n2, n3, n4⟩
    match j, hj with
    | 0, _ => rw [e0]; exact ⟨z0, y0⟩
    | 1, _ => rw [e1]; exact ⟨z1, y1⟩
    | 2, _ => rw [e2]; exact ⟨z2, y2⟩
  have hF : x_F true (fun i => s.heap.size + i) ex dA D (fun q : Nat => s.heap.size ≤ q) s := ⟨⟨hD, hdA⟩, hXX, st_nest hts, fun i j h => Nat.add_left_cancel h, fun _ q hq => hq, n5, n6⟩
  have hM : x_M true (fun i => s.heap.size + i) ex dA D (fun q : Nat => s.heap.size ≤ q) [] s.heap := ⟨fun k q h => (by obtain ⟨q2, h2, -⟩ := x_w_of h; cases h2), fun i hi => absurd hi (Nat.not_lt_zero i), fun _ => ⟨rfl, fun i _ => rfl⟩⟩
  have hE : LwE L xs ex := ⟨e6, fun k _ => by rw [e7, hbt]⟩
  have hl := lv_entry ([.ref b]) (n := 4) (Nat.le_of_ble_eq_true rfl)
  rw [lg_entry_eq]
  generalize (lg_sl ([.ref b]) ++ List.replicate (4 - (lg_sl ([.ref b])).length) Slot.unset).toArray = ls at hl ⊢
  have hLL : x_L (fun i => s.heap.size + i) ex ls 4 [some (.retAddr 3), none, none, none] := by
    refine ⟨hl.1, hl.2.1, fun i v h => ?_⟩
    match i, h with
    | 0, h =>
      cases h
      have := hl.2.2 (0, .ref b) List.mem_cons_self
      show ls[0]? = some (.val (.ref (ex 3)))
      rw [e3]
      exact this
    | 1, h => cases h
    | 2, h => cases h
    | 3, h => cases h
    | i + 4, h => exact absurd h (by simp)
  have hI : x_I true m_Law (fun i => s.heap.size + i) ex dA D (fun q : Nat => s.heap.size ≤ q) p s m #[Value.ref b] meth c s.heap [] 0 0 ls 600000 7302249 [some (.retAddr 3), none, none, none] [] 600000 7302249 :=
    ⟨⟨hx, hb, hr, hlocks, hml, hown, hname, fun w hw => hts w (gw_lw hw)⟩, hF, hM, va_S.rf, hLL, Nat.le_of_eq (Nat.zero_add _), Nat.le_of_eq (Nat.zero_add _)⟩
  intro T hT X
  obtain ⟨t, a1, o, b1, b2, ⟨⟨mem, r, ho, hq, -⟩, -⟩, L2, hfe, hfree⟩ := law_SX (d := 1219) (Q := fun _ r => r = some (.int 1)) hL (fun _ => rfl) (l := l) (e := e) (below := below) hE hI T hT ⟨X.admits, X.cas, X.clock, X.frames, room_low X.room, X.hears, X.method, X.code, X.here, X.tail, X.warmed, X.limits, X.bytes, X.same⟩
  subst hq
  refine ⟨t, a1, o, b1, b2, ho, ?_⟩
  subst ho
  exact ⟨⟨_, rfl⟩, hfe.2.1, State.sameButNew.drop_fresh (L := []) (J := L2) hfe.2.2 hfree⟩
set_option maxHeartbeats 4000000 in
theorem lw_walk (l : Launch) (hflags : l.flags = flags0) (b : Addr) (xs : List Int32) : MetFree l x (headSpec (Jvm.Cond.code x code maxLocals ret :: tables_1) room_1) (lw_P b xs) (fun _ _ _ _ _ => True) lw_Q := by
  refine MetFree.of_bodyS (code := code) (maxLocals := maxLocals) (ret := ret) (by decide) ?_ ?_
  · intro args s m h hn
    obtain ⟨meth, c, h1, h2, h3, h4, h5, h6, -, -⟩ := Cond.code_spec hn (atoms_spec (ws := Jvm.Cond.code x code maxLocals ret :: tables_1) h _ List.mem_cons_self)
    exact ⟨meth, c, h1, h2, h3, h4, h5, h6⟩
  · intro p e s m args below meth c s₁ B hml0 hP _
    obtain ⟨rfl, hx, hbd, hgv⟩ := hP
    obtain ⟨scr, harrAt, hlist, hof, hsmall⟩ := hx
    obtain ⟨hcb, hkn, -, -⟩ := State.arrayAt?_spec harrAt
    have hown : s.vm.findClass R_law = some m.cls := findClass_of_methodNamed B.named
    have hts0 : ∀ c ∈ (Jvm.Cond.code x code maxLocals ret :: tables_1), c.before #[Value.ref b] s = true := atoms_spec (ws := Jvm.Cond.code x code maxLocals ret :: tables_1) B.pre
    have hts : ∀ w ∈ lw_tbl, w.before #[Value.ref b] s = true := k2_hts_sels lw_privs (fun w hw => hts0 w (List.mem_cons_of_mem _ hw)) lw_privs_ok
    have hml : c.maxLocals = 4 := B.maxLocals_eq (hts0 _ List.mem_cons_self)
    have X₀ : Stand p l e room_1 s m #[Value.ref b] below meth c s₁ [] 0 0 := Stand.of_body B
    have hh0 : s₁.heap = s.heap := by rw [B.state]; rfl
    have hsz : scr.slots.size = xs.length := by rw [← Array.length_toList, hlist, List.length_map]
    have hval : ∀ j : Nat, j < xs.length → scr.slots[j]? = some (.int (xs.getD j 0)) := fun j hj => by
      rw [← Array.getElem?_toList, hlist]
      simp [hj]
    have hbl : b < s.heap.size := (Array.getElem?_eq_some_iff.mp hcb).1
    have hX : va_X b xs.length (fun j => xs.getD j 0) s s.heap := ⟨scr, hcb, hof, hkn, hsz, hval⟩
    have K : W p l e room_1 s m #[Value.ref b] below meth c s₁.heap [] 0 0 (lw_Z below #[Value.ref b] s) (entryFrame m ([Value.ref b] : List Value).toArray 4) := by
      rw [hh0]
      exact whole_start l (name_of_methodNamed B.named B.method).1 hbd ⟨B.exec, B.bytes, B.returns, hml, hown, hts, hX, hbl, B.notSynchronized, hgv⟩
    obtain ⟨t, a1, o, b1, b2, b3⟩ := K s₁ rfl X₀
    exact ⟨t, o, a1, b1, b2, b3⟩
theorem lw_pre_spec {args : Array Value} {s : State} (h : (Jvm.Cond.and given_1 narrow_1).before args s = true) (hr : rest_1_c.before args s = true) : ∃ (b : Addr) (xs : List Int32), lw_P b xs args s := by
  have hs := flat_of_before _ h
  have hq := flat_of_before _ hr
  have hc : (Cond.count 1).before args s = true := hs _ (by decide +kernel)
  have harr : (Cond.arrayOf (.arg 0) .int).before args s = true := hs _ (by decide +kernel)
  have hle : (Cond.le (.length (.arg 0)) (.int 3072)).before args s = true := hs _ (by decide +kernel)
  have hlen : (Cond.isInt (.length (.arg 0))).before args s = true := hq _ (by decide +kernel)
  have hall : (Cond.all (.arg 0) (.isInt (.elem (.arg 0) (.index 0)))).before args s = true := hq _ (by decide +kernel)
  obtain ⟨b, xs, hb, hx⟩ := State.ints_of_pre rfl harr hlen hall
  have hsm : xs.length < 2 ^ 31 := hx.choose_spec.2.2.2
  have hev : (Term.length (.arg 0)).eval args s none [] s = some (.int xs.length.toInt32) := hx.length_eval hb
  have hv := Cond.le_ints hev (show (Term.int 3072).eval args s none [] s = some (.int 3072) from rfl)
  have hd : xs.length.toInt32 ≤ 3072 := by
    simpa [Cond.before, Cond.holds, hv] using hle
  have hN : xs.length ≤ 3072 := (Int32.ofNat_le_ofNat hsm (by decide)).mp (show Int32.ofNat xs.length ≤ Int32.ofNat 3072 from hd)
  exact ⟨b, xs, Cond.one_arg hc (show args[0]? = some (.ref b) from hb), hx, hN, h⟩
theorem lw_comes (l : Launch) (hflags : l.flags = flags0) : Comes l x (Jvm.Cond.code x code maxLocals ret :: tables_1) room_1 (fun tb e args s => Calls_1 tb e args s ∧ rest_1 tb e args s ∧ Pre_1 tb e args s)
    (fun _ _ args s o t => lw_Q args s o t) := by
  intro p e ha hc hk s m args below hf hfit hheap happ hpre
  obtain ⟨b, xs, hP⟩ := lw_pre_spec hpre.2.2 hpre.2.1
  obtain ⟨k, o, h1, h2, h3, hQ⟩ := lw_walk l hflags b xs p e ha hc hk s m args below hf ((Spec.applies_iff_loose hf).mp happ).1 hP trivial
  exact ⟨k, o, h1, h2, h3, hQ⟩
theorem lw_frame {s t : State} {o : Outcome} {args : Array Value} (h : Framed s o t [] 600000 7302249) :
    Framed s o t (fieldLocs frame_1_writes args s ++ arrayLocs frame_1_arrays args s ++ staticLocs frame_1_statics s) 600000 7302249 := h
theorem lw_limb (L : Cond) (hL : ∀ (args : Array Value) (s t : State), L.after args s (.returned (some (.int 1))) t = true) :
    ArmFor flags0 classFile x code maxLocals ret World_1 tables_1 room_1 Calls_1 rest_1 Pre_1
      (fun tb e a s o t => postC L tb e a s o t ∧ Framed s o t (fieldLocs frame_1_writes a s ++ arrayLocs frame_1_arrays a s ++ staticLocs frame_1_statics s) 600000 7302249) := by
  intro l hflags _ _ p e ha hc hk s m args below hf hfit hheap happ hpre
  obtain ⟨k, o, h1, h2, h3, rfl, hF⟩ := lw_comes l hflags p e ha hc hk s m args below hf hfit hheap happ hpre
  exact ⟨k, _, h1, h2, h3, hL args s _, lw_frame hF⟩
theorem i_vc : Claimed_1_1 ∧ Claimed_1_2 := ⟨lw_limb limb_1_1 (fun args s t => by simp [limb_1_1, Cond.after, Cond.holds, Cond.value]), lw_limb limb_1_2 (fun args s t => Cond.after_iff.mpr (by
  first | (rw [show limb_1_2 = Cond.eq .result (.int 1) from rfl, Cond.eq_ints (x := 1) (y := 1) rfl rfl]; simp; done) | (simp [limb_1_2, Cond.value, Term.eval]; done)))⟩
