/-! THE FRAME: a contract over some cells of a larger picture, under numbers of its own -/
def r_v (sg : Nat → Nat) (v : Value) : Value := match v with
  | .ref a => .ref (sg a)
  | w => w
def r_e (sg : Nat → Nat) (q : xM) : xM := match q with
  | .inl (t, a) => .inl (t, x_a sg a)
  | .inr (ci, fs) => .inr (ci, fs.map (r_v sg))
theorem x_v_r {ad ex sg : Nat → Nat} (v : Value) : x_v ad ex (r_v sg v) = x_v (fun i => ad (sg i)) ex v := by cases v <;> rfl
theorem x_a_r {ad sg : Nat → Nat} (a : vp_A) : x_a ad (x_a sg a) = x_a (fun i => ad (sg i)) a := by
  obtain ⟨n, z⟩ := a
  rcases z with f | f | f | f | f
  · rfl
  · rfl
  · rfl
  · rfl
  · have e : (fun i => Option.map ad (Option.map sg (f i))) = (fun i => Option.map (fun i => ad (sg i)) (f i)) := by
      funext i
      cases f i <;> rfl
    exact congrArg (fun z => ((n, .inr (.inr (.inr (.inr z)))) : vp_A)) e
theorem x_e_r {ad ex sg : Nat → Nat} {dA : Nat → ClassId} (q : xM) : x_e ad ex dA (r_e sg q) = x_e (fun i => ad (sg i)) ex dA q := by
  rcases q with ⟨t, a⟩ | ⟨ci, fs⟩
  · show Sum.inl (dA t, x_a ad (x_a sg a)) = Sum.inl (dA t, x_a (fun i => ad (sg i)) a)
    rw [x_a_r]
  · show Sum.inr (ci, (fs.map (r_v sg)).map (x_v ad ex)) = Sum.inr (ci, fs.map (x_v (fun i => ad (sg i)) ex))
    rw [List.map_map]
    congr 3
    funext v
    exact x_v_r v
/-- written back -/
def wb (sg : Nat → Nat) : Nat → List xM → List xM → List xM
  | _, [], b => b
  | i, q :: qs, b => wb sg (i + 1) qs (b.set (sg i) (r_e sg q))
theorem wb_len {sg : Nat → Nat} : ∀ (qs : List xM) (i : Nat) (b : List xM), (wb sg i qs b).length = b.length
  | [], i, b => rfl
  | q :: qs, i, b => by
    show (wb sg (i + 1) qs (b.set (sg i) (r_e sg q))).length = _
    rw [wb_len qs, List.length_set]
theorem wb_out {sg : Nat → Nat} {k : Nat} : ∀ (qs : List xM) (i : Nat) (b : List xM), (∀ j, j < qs.length → sg (i + j) ≠ k) → (wb sg i qs b)[k]? = b[k]?
  | [], i, b, h => rfl
  | q :: qs, i, b, h => by
    show (wb sg (i + 1) qs (b.set (sg i) (r_e sg q)))[k]? = _
    rw [wb_out qs (i + 1) _ (fun j hj => by rw [show i + 1 + j = i + (j + 1) by omega]; exact h (j + 1) (by simp; omega))]
    have h0 := h 0 (by simp)
    rw [List.getElem?_set_ne (by simpa using h0)]
theorem wb_in {sg : Nat → Nat} (hi : ∀ i j : Nat, sg i = sg j → i = j) : ∀ (qs : List xM) (i : Nat) (b : List xM) (j : Nat) (q : xM), qs[j]? = some q → sg (i + j) < b.length → (wb sg i qs b)[sg (i + j)]? = some (r_e sg q)
  | [], i, b, j, q, h, hl => by simp at h
  | q0 :: qs, i, b, 0, q, h, hl => by
    show (wb sg (i + 1) qs (b.set (sg i) (r_e sg q0)))[sg (i + 0)]? = _
    rw [wb_out qs (i + 1) _ (fun j hj e => by have := hi _ _ e; omega)]
    simp at h
    subst h
    rw [Nat.add_zero, List.getElem?_set_self (by simpa using hl)]
  | q0 :: qs, i, b, j + 1, q, h, hl => by
    show (wb sg (i + 1) qs (b.set (sg i) (r_e sg q0)))[sg (i + (j + 1))]? = _
    rw [show i + (j + 1) = i + 1 + j by omega]
    rw [show i + (j + 1) = i + 1 + j by omega] at hl
    exact wb_in hi qs (i + 1) _ j q (by simpa using h) (by rw [List.length_set]; exact hl)
theorem x_X.less {ex : Nat → Nat} {A A' : Nat → Prop} {U : State} {H : Heap} (h : x_X ex A U H) (hA : ∀ q, A' q → A q) : x_X ex A' U H := by
  refine ⟨?_, h.2.less hA⟩
  intro j hj
  obtain ⟨⟨cf, kf, fi, f, a, cell, z1, z2, z3, z4, z5, z6, z7, z8⟩, ⟨cell2, t1, t2, t3, t4, t5, t6, t7⟩⟩ := h.1 j hj
  exact ⟨⟨cf, kf, fi, f, a, cell, z1, z2, z3, z4, z5, z6, z7, fun q => z8 (hA _ q)⟩, ⟨cell2, t1, t2, t3, t4, t5, t6, fun q => t7 (hA _ q)⟩⟩
theorem CT.sub {g : Bool} {y : xY} {d : Nat} {args as2 : List Value} {sub big : List xM} {Q : List xM → Option Value → Prop} (sg : Nat → Nat) (hi : ∀ i j : Nat, sg i = sg j → i = j) (hs : ∀ (i : Nat) (q : xM), sub[i]? = some q → big[sg i]? = some (r_e sg q)) (ha2 : as2 = args.map (r_v sg))
    (h : CT false y d args sub 0 0 (fun sub' r => sub'.length = sub.length ∧ Q (wb sg 0 sub' big) (r.map (r_v sg)))) : CT g y d as2 big 0 0 Q := by
  intro l ad ex dA D A
  subst ha2
  have h' := h (l := l) (ad := fun i => ad (sg i)) (ex := ex) (dA := dA) (D := D) (A := fun q => ∃ i, i < sub.length ∧ q = ad (sg i))
  intro p e ha hc hk s m args1 below hf happ hP hK
  obtain ⟨hP1, hF, hM⟩ := hP
  obtain ⟨f1, f2, f3, f4, f5, f6, f7⟩ := hF
  have hlt : ∀ i, i < sub.length → sg i < big.length := fun i hil => by
    have := hs i sub[i] (List.getElem?_eq_getElem hil)
    exact (List.getElem?_eq_some_iff.mp this).1
  have hAA : ∀ q, (∃ i, i < sub.length ∧ q = ad (sg i)) → A q := fun q ⟨i, hil, e⟩ => by rw [e]; exact hM.2.1 _ (hlt i hil)
  obtain ⟨n, o, h1, h2, h3, ⟨⟨mem, r, ho, ⟨hlen, hq⟩, hM2⟩, hV⟩, L, hE, hL⟩ := h' p e ha hc hk s m args1 below hf happ ⟨by rw [hP1, List.map_map]; congr 1; congr 1; funext v; exact x_v_r v, ⟨f1, f2.less hAA, f3, fun i j e => hi _ _ (f4 _ _ e), (fun q => (by cases q)), f6, f7⟩, ⟨fun k q hkq => by
      obtain ⟨c, hc1, rfl⟩ := x_w_of hkq
      have := hM.1 (sg k) _ (x_w_at (hs k c hc1))
      rw [x_e_r] at this
      exact this, fun i hil => ⟨i, hil, rfl⟩, (fun q => (by cases q))⟩⟩ hK
  refine ⟨n, o, h1, h2, h3, ⟨⟨wb sg 0 mem big, r.map (r_v sg), ?_, hq, ?_, ?_, ?_⟩, hV.1, fun q a1 a2 => hV.2 q a1 (fun z => a2 (hAA q z))⟩, L, hE, fun q hq => hAA _ (hL q hq)⟩
  · rw [ho, Option.map_map]
    congr 2
    funext v
    exact (x_v_r v).symm
  · intro k q hkq
    obtain ⟨c, hc1, rfl⟩ := x_w_of hkq
    by_cases hex : ∃ j, j < mem.length ∧ sg j = k
    · obtain ⟨j, hj, rfl⟩ := hex
      have hw := wb_in hi mem 0 big j mem[j] (List.getElem?_eq_getElem hj) (by rw [Nat.zero_add]; exact hlt j (by omega))
      rw [Nat.zero_add, hc1] at hw
      cases hw
      rw [x_e_r]
      exact hM2.1 j _ (x_w_at (List.getElem?_eq_getElem hj))
    · rw [wb_out mem 0 big (fun j hj e => hex ⟨j, hj, by rw [Nat.zero_add] at e; exact e⟩)] at hc1
      have hv := hM.1 k _ (x_w_at hc1)
      refine hv.kept ?_
      refine hV.2 _ hv.lt ?_
      rintro ⟨i, hil, e⟩
      exact hex ⟨i, by omega, (f4 _ _ e).symm⟩
  · intro i hil
    rw [wb_len] at hil
    exact hM.2.1 i hil
  · intro hg
    obtain ⟨z1, z2⟩ := hM.2.2 hg
    rw [wb_len]
    refine ⟨?_, z2⟩
    have hsz := hE.2.2.2.2.1
    have hsz2 := hV.1
    have : (stepsAlone p.tables e n s).heap.size ≤ s.heap.size + 0 := hsz
    omega
/-- numbers out of a list -/
def sgl (l : List Nat) (N : Nat) (i : Nat) : Nat := match l[i]? with
  | some k => k
  | none => N + i
theorem sgl_inj {l : List Nat} {N : Nat} (h1 : l.Nodup) (h2 : ∀ k ∈ l, k < N) (i j : Nat) (e : sgl l N i = sgl l N j) : i = j := by
  unfold sgl at e
  split at e
  · next k hk =>
    split at e
    · next k2 hk2 =>
      subst e
      obtain ⟨a1, a2⟩ := List.getElem?_eq_some_iff.mp hk
      obtain ⟨b1, b2⟩ := List.getElem?_eq_some_iff.mp hk2
      rcases Nat.lt_trichotomy i j with h | h | h
      · exact absurd (a2.trans b2.symm) (List.pairwise_iff_getElem.mp h1 i j a1 b1 h)
      · exact h
      · exact absurd (b2.trans a2.symm) (List.pairwise_iff_getElem.mp h1 j i b1 a1 h)
    · have := h2 k (List.mem_of_getElem? hk)
      omega
  · split at e
    · next k2 hk2 =>
      have := h2 k2 (List.mem_of_getElem? hk2)
      omega
    · omega
/-- a list of cells lies in a larger one, under numbers -/
def Emb (sg : Nat → Nat) : Nat → List xM → List xM → Prop
  | _, [], _ => True
  | i, q :: qs, big => big[sg i]? = some (r_e sg q) ∧ Emb sg (i + 1) qs big
theorem Emb.at {sg : Nat → Nat} {big : List xM} : ∀ (qs : List xM) (i : Nat), Emb sg i qs big → ∀ (j : Nat) (q : xM), qs[j]? = some q → big[sg (i + j)]? = some (r_e sg q)
  | [], i, h, j, q, hj => by simp at hj
  | q0 :: qs, i, h, 0, q, hj => by
    simp at hj
    subst hj
    exact h.1
  | q0 :: qs, i, h, j + 1, q, hj => by
    have := Emb.at qs (i + 1) h.2 j q (by simpa using hj)
    rw [show i + (j + 1) = i + 1 + j by omega]
    exact this
theorem Emb.hs {sg : Nat → Nat} {sub big : List xM} (h : Emb sg 0 sub big) (i : Nat) (q : xM) (hq : sub[i]? = some q) : big[sg i]? = some (r_e sg q) := by
  have := Emb.at sub 0 h i q hq
  rwa [Nat.zero_add] at this
/-- a tail that stays is written back as it was -/
theorem wb_app {sg : Nat → Nat} : ∀ (cs T : List xM) (i : Nat) (b : List xM), wb sg i (cs ++ T) b = wb sg (i + cs.length) T (wb sg i cs b)
  | [], T, i, b => rfl
  | q :: cs, T, i, b => by
    show wb sg (i + 1) (cs ++ T) (b.set (sg i) (r_e sg q)) = wb sg (i + (cs.length + 1)) T (wb sg (i + 1) cs (b.set (sg i) (r_e sg q)))
    rw [wb_app cs T (i + 1), show i + 1 + cs.length = i + (cs.length + 1) by omega]
theorem wb_same {sg : Nat → Nat} : ∀ (T : List xM) (i : Nat) (b : List xM), Emb sg i T b → wb sg i T b = b
  | [], i, b, h => rfl
  | q :: T, i, b, h => by
    have e : b.set (sg i) (r_e sg q) = b := by
      obtain ⟨h1, h2⟩ := List.getElem?_eq_some_iff.mp h.1
      rw [← h2, List.set_getElem_self]
    show wb sg (i + 1) T (b.set (sg i) (r_e sg q)) = b
    rw [e]
    exact wb_same T (i + 1) b h.2
theorem CT.subG {y : xY} {d mc ms : Nat} {args as2 : List Value} {sub big : List xM} {Q : List xM → Option Value → Prop} (sg : Nat → Nat) (hi : ∀ i j : Nat, sg i = sg j → i = j) (hn : ∀ k : Nat, sg (sub.length + k) = big.length + k) (hs : ∀ (i : Nat) (q : xM), sub[i]? = some q → big[sg i]? = some (r_e sg q)) (ha2 : as2 = args.map (r_v sg))
    (h : CT true y d args sub mc ms (fun sub' r => sub.length ≤ sub'.length ∧ Q (wb sg 0 (sub'.take sub.length) big ++ (sub'.drop sub.length).map (r_e sg)) (r.map (r_v sg)))) : CT true y d as2 big mc ms Q := by
  intro l ad ex dA D A
  subst ha2
  have h' := h (l := l) (ad := fun i => ad (sg i)) (ex := ex) (dA := dA) (D := D) (A := fun q => ∃ i, q = ad (sg i))
  intro p e ha hc hk s m args1 below hf happ hP hK
  obtain ⟨hP1, hF, hM⟩ := hP
  obtain ⟨f1, f2, f3, f4, f5, f6, f7⟩ := hF
  obtain ⟨z1, z2⟩ := hM.2.2 rfl
  have hlt : ∀ i, i < sub.length → sg i < big.length := fun i hil => by
    have := hs i sub[i] (List.getElem?_eq_getElem hil)
    exact (List.getElem?_eq_some_iff.mp this).1
  have hup : ∀ k, ad (big.length + k) = s.heap.size + k := by
    intro k
    induction k with
    | zero => rw [Nat.add_zero, Nat.add_zero]; exact z1.symm
    | succ k ih =>
      have := z2 (big.length + k) (by omega)
      rw [show big.length + (k + 1) = big.length + k + 1 by omega, this, ih]
      omega
  have hAA : ∀ q, (∃ i, q = ad (sg i)) → A q := fun q ⟨i, e⟩ => by
    rw [e]
    by_cases hil : i < sub.length
    · exact hM.2.1 _ (hlt i hil)
    · have e2 := hn (i - sub.length)
      rw [show sub.length + (i - sub.length) = i by omega] at e2
      rw [e2, hup]
      exact f5 rfl _ (by omega)
  obtain ⟨n, o, h1, h2, h3, ⟨⟨mem, r, ho, ⟨hlen, hq⟩, hM2⟩, hV⟩, L, hE, hL⟩ := h' p e ha hc hk s m args1 below hf happ ⟨by rw [hP1, List.map_map]; congr 1; congr 1; funext v; exact x_v_r v, ⟨f1, f2.less hAA, f3, fun i j e => hi _ _ (f4 _ _ e), (fun _ q hq => ⟨sub.length + (q - s.heap.size), by rw [hn, hup]; omega⟩), f6, f7⟩, ⟨fun k q hkq => by
      obtain ⟨c, hc1, rfl⟩ := x_w_of hkq
      have := hM.1 (sg k) _ (x_w_at (hs k c hc1))
      rw [x_e_r] at this
      exact this, fun i hil => ⟨i, rfl⟩, (fun _ => ⟨by show s.heap.size = ad (sg sub.length); rw [show sub.length = sub.length + 0 from rfl, hn, hup]; rfl, fun i hil => by
        show ad (sg (i + 1)) = ad (sg i) + 1
        rw [show i + 1 = sub.length + (i - sub.length + 1) by omega, hn, hup, show sg i = big.length + (i - sub.length) by rw [← hn]; congr 1; omega, hup]
        omega⟩)⟩⟩ hK
  obtain ⟨y1, y2⟩ := hM2.2.2 rfl
  have hlen2 : (wb sg 0 (mem.take sub.length) big ++ (mem.drop sub.length).map (r_e sg)).length = big.length + (mem.length - sub.length) := by
    rw [List.length_append, wb_len, List.length_map, List.length_drop]
  have hsz : (stepsAlone p.tables e n s).heap.size = s.heap.size + (mem.length - sub.length) := by
    have y3 : (stepsAlone p.tables e n s).heap.size = ad (sg mem.length) := y1
    rw [y3, show mem.length = sub.length + (mem.length - sub.length) by omega, hn, hup]
    omega
  refine ⟨n, o, h1, h2, h3, ⟨⟨_, r.map (r_v sg), ?_, hq, ?_, ?_, ?_⟩, hV.1, fun q a1 a2 => hV.2 q a1 (fun z => a2 (hAA q z))⟩, L, hE, fun q hq => hAA _ (hL q hq)⟩
  · rw [ho, Option.map_map]
    congr 2
    funext v
    exact (x_v_r v).symm
  · intro k q hkq
    obtain ⟨c, hc1, rfl⟩ := x_w_of hkq
    by_cases hkb : k < big.length
    · rw [List.getElem?_append_left (by rw [wb_len]; exact hkb)] at hc1
      by_cases hex : ∃ j, j < sub.length ∧ sg j = k
      · obtain ⟨j, hj, rfl⟩ := hex
        have hj2 : (mem.take sub.length)[j]? = some mem[j] := by rw [List.getElem?_take_of_lt hj, List.getElem?_eq_getElem (by omega)]
        have hw := wb_in hi (mem.take sub.length) 0 big j _ hj2 (by rw [Nat.zero_add]; exact hkb)
        rw [Nat.zero_add, hc1] at hw
        cases hw
        rw [x_e_r]
        exact hM2.1 j _ (x_w_at (List.getElem?_eq_getElem (by omega)))
      · rw [wb_out (mem.take sub.length) 0 big (fun j hj e => hex ⟨j, by rw [List.length_take] at hj; omega, by rw [Nat.zero_add] at e; exact e⟩)] at hc1
        have hv := hM.1 k _ (x_w_at hc1)
        refine hv.kept ?_
        refine hV.2 _ hv.lt ?_
        rintro ⟨i, e⟩
        have e2 := f4 _ _ e
        by_cases hil : i < sub.length
        · exact hex ⟨i, hil, e2.symm⟩
        · have e3 := hn (i - sub.length)
          rw [show sub.length + (i - sub.length) = i by omega] at e3
          omega
    · rw [List.getElem?_append_right (by rw [wb_len]; omega), wb_len, List.getElem?_map, List.getElem?_drop] at hc1
      cases hm : mem[sub.length + (k - big.length)]? with
      | none => rw [hm] at hc1; cases hc1
      | some c0 =>
        rw [hm] at hc1
        cases hc1
        have hv := hM2.1 _ _ (x_w_at hm)
        have e3 := hn (k - big.length)
        rw [show big.length + (k - big.length) = k by omega] at e3
        rw [x_e_r]
        have hv2 : va_at D xcl (ad (sg (sub.length + (k - big.length))), x_e (fun i => ad (sg i)) ex dA c0) (stepsAlone p.tables e n s).heap := hv
        rw [e3] at hv2
        exact hv2
  · intro i hil
    rw [hlen2] at hil
    by_cases hib : i < big.length
    · exact hM.2.1 i hib
    · rw [show i = big.length + (i - big.length) by omega, hup]
      exact f5 rfl _ (by omega)
  · intro _
    rw [hlen2]
    refine ⟨?_, fun i hil => z2 i (by omega)⟩
    rw [hsz, hup]
theorem Emb.nil {sg : Nat → Nat} {i : Nat} {big : List xM} : Emb sg i [] big := trivial
theorem Emb.cons {sg : Nat → Nat} {i : Nat} {q : xM} {qs big : List xM} (h1 : big[sg i]? = some (r_e sg q)) (h2 : Emb sg (i + 1) qs big) : Emb sg i (q :: qs) big := ⟨h1, h2⟩
