/-! PURE: clauses; laws tell the same -/
def opS (a : Option SXC) : List (Int × Int) := match a with
  | some x => x.2 ++ [(46, 0)]
  | none => []
def opT (a : Option TXC) (z : Int) : List (Int × Int) := match a with
  | some x => x.2 z ++ [(46, 0)]
  | none => []
def lyC (z : Int) (q : CXC) : List (Int × Int) := opS q.2.1 ++ opS q.2.2.1 ++ opT q.2.2.2.2 (z + (opS q.2.1).length + (opS q.2.2.1).length)
def fiC (z : Int) (q : CXC) : Int := if q.2.1.isSome then z else -1
def seC (z : Int) (q : CXC) : Int := if q.2.2.1.isSome then z + (opS q.2.1).length else -1
def teC (z : Int) (q : CXC) : Int := if q.2.2.2.2.isSome then z + (opS q.2.1).length + (opS q.2.2.1).length else -1
def ClA (hb : Int) (kn ff sc ts mm st vl : Int → Int) (c z : Int) (q : CXC) : Prop := kn c = tkm q.1 - hb ∧ ff c = fiC z q ∧ sc c = seC z q ∧ ts c = teC z q ∧ mm c = q.2.2.2.1 ∧ At st vl z (lyC z q)
def TxR (hb : Int) (kn ff sc ts mm st vl : Int → Int) : Int → Int → List CXC → Int → Prop
  | _, z, [], ze => z = ze
  | c, z, q :: qs, ze => ClA hb kn ff sc ts mm st vl c z q ∧ TxR hb kn ff sc ts mm st vl (c + 1) (z + ((lyC z q).length : Int)) qs ze
theorem TxR_at {hb : Int} {kn ff sc ts mm st vl : Int → Int} : ∀ (cs : List CXC) (c z ze : Int), TxR hb kn ff sc ts mm st vl c z cs ze → z ≤ ze ∧ ∀ (i : Nat) (q : CXC), cs[i]? = some q → ∃ z', z ≤ z' ∧ ClA hb kn ff sc ts mm st vl (c + i) z' q ∧ z' + ((lyC z' q).length : Int) ≤ ze
  | [], c, z, ze, h => ⟨by have h2 : z = ze := h; omega, fun i q hq => by simp at hq⟩
  | q0 :: qs, c, z, ze, h => by
    obtain ⟨h1, h2⟩ := h
    obtain ⟨i1, i2⟩ := TxR_at qs _ _ _ h2
    refine ⟨by omega, fun i q hq => ?_⟩
    cases i with
    | zero =>
      have e : q0 = q := by simpa using hq
      subst e
      exact ⟨z, Int.le_refl _, by rw [show c + ((0 : Nat) : Int) = c by omega]; exact h1, i1⟩
    | succ i =>
      obtain ⟨z2, j1, j2, j3⟩ := i2 i q (by simpa using hq)
      exact ⟨z2, by omega, by rw [show c + ((i + 1 : Nat) : Int) = c + 1 + (i : Int) by omega]; exact j2, j3⟩
/-- what a clause's sums and tests are on the stack -/
def CXk (st vl wd : Int → Int) (sz : Int) (wv : Int → Int → Int) (q : CXC) : Prop := (∀ a, q.2.1 = some a → ∃ n, 1 ≤ n ∧ n ≤ 50 ∧ MS st vl wd sz (a.1 wv) a.2 n) ∧ (∀ a, q.2.2.1 = some a → ∃ n, 1 ≤ n ∧ n ≤ 50 ∧ MS st vl wd sz (a.1 wv) a.2 n) ∧ (∀ x, q.2.2.2.2 = some x → ∃ n, 1 ≤ n ∧ n ≤ 50 ∧ MT st vl wd sz (x.1 wv) x.2 n)
/-- what clauses are -/
def CXh (io : Int) (q : CXC) : Prop := if io = 1 then ((q.1 = 21 ∨ q.1 = 24) ∧ q.2.1.isSome = true ∧ q.2.2.1.isSome = true ∨ q.1 = 23 ∧ q.2.1.isSome = true ∧ q.2.2.1 = none ∨ q.1 = 26 ∧ q.2.1 = none ∧ q.2.2.1 = none) ∧ 1 ≤ q.2.2.2.1 ∧ q.2.2.2.1 ≤ 20 else ((q.1 = 1 ∨ q.1 = 2 ∨ q.1 = 3) ∧ q.2.1.isSome = true ∨ q.1 = 4 ∧ q.2.1 = none) ∧ q.2.2.1 = none ∧ q.2.2.2.1 = 1
theorem pTail_inv {C : Int → Int} {T : Int → Int → PR TXC} {hd : Int} {a b : Option SXC} {tm t l : Int} {r : CXC × Int × Int} (h : pTail C T hd a b tm t l = .inl r) : (C t ≠ 5 ∧ r = ((hd, a, b, tm, none), t, l)) ∨ (C t = 5 ∧ ∃ x t2 l2, T (t + 1) l = .inl (x, t2, l2) ∧ r = ((hd, a, b, tm, some x), t2, l2)) := by
  unfold pTail at h
  by_cases c : C t = 5
  · rw [if_pos c] at h
    cases hq : T (t + 1) l with
    | inr t' => rw [hq] at h; cases h
    | inl q =>
      obtain ⟨x, t2, l2⟩ := q
      rw [hq] at h
      exact Or.inr ⟨c, x, t2, l2, rfl, (Sum.inl.inj h).symm⟩
  · rw [if_neg c] at h
    exact Or.inl ⟨c, (Sum.inl.inj h).symm⟩
theorem pTm_inv {C V : Int → Int} {T : Int → Int → PR TXC} {hd : Int} {a b : Option SXC} {t l : Int} {r : CXC × Int × Int} (h : pTm C V T hd a b t l = .inl r) : (C t = 27 ∧ (C (t + 1) = 50 ∧ 1 ≤ V (t + 1) ∧ V (t + 1) ≤ 20) ∧ pTail C T hd a b (V (t + 1)) (t + 2) l = .inl r) ∨ (C t ≠ 27 ∧ pTail C T hd a b 1 t l = .inl r) := by
  unfold pTm at h
  by_cases c : C t = 27
  · rw [if_pos c] at h
    by_cases c2 : C (t + 1) = 50 ∧ 1 ≤ V (t + 1) ∧ V (t + 1) ≤ 20
    · rw [if_pos c2] at h
      exact Or.inl ⟨c, c2, h⟩
    · rw [if_neg c2] at h; cases h
  · rw [if_neg c] at h
    exact Or.inr ⟨c, h⟩
theorem pLaw_inv {C : Int → Int} {S : Int → Int → PR SXC} {T : Int → Int → PR TXC} {tk lv : Int} {r : CXC × Int × Int} (h : pLaw C S T tk lv = .inl r) : ((C tk = 1 ∨ C tk = 2 ∨ C tk = 3) ∧ ∃ a t1 l1, S (tk + 1) lv = .inl (a, t1, l1) ∧ pTail C T (C tk) (some a) none 1 t1 l1 = .inl r) ∨ (C tk = 4 ∧ pTail C T 4 none none 1 (tk + 1) lv = .inl r) := by
  unfold pLaw at h
  by_cases c : C tk = 1 ∨ C tk = 2 ∨ C tk = 3
  · rw [if_pos c] at h
    cases hq : S (tk + 1) lv with
    | inr t' => rw [hq] at h; cases h
    | inl q =>
      obtain ⟨x, t2, l2⟩ := q
      rw [hq] at h
      exact Or.inl ⟨c, x, t2, l2, rfl, h⟩
  · rw [if_neg c] at h
    by_cases c2 : C tk = 4
    · rw [if_pos c2] at h
      exact Or.inr ⟨c2, h⟩
    · rw [if_neg c2] at h; cases h
theorem pTwo_inv {C V : Int → Int} {S : Int → Int → PR SXC} {T : Int → Int → PR TXC} {hd mid tk lv : Int} {r : CXC × Int × Int} (h : pTwo C V S T hd mid tk lv = .inl r) : ∃ a t1 l1, S (tk + 1) lv = .inl (a, t1, l1) ∧ C t1 = mid ∧ ∃ b t2 l2, S (t1 + 1) l1 = .inl (b, t2, l2) ∧ pTm C V T hd (some a) (some b) t2 l2 = .inl r := by
  unfold pTwo at h
  cases hq : S (tk + 1) lv with
  | inr t' => rw [hq] at h; cases h
  | inl q =>
    obtain ⟨a, t1, l1⟩ := q
    rw [hq] at h
    dsimp only at h
    by_cases c : C t1 = mid
    · rw [if_pos c] at h
      cases hr : S (t1 + 1) l1 with
      | inr t' => rw [hr] at h; cases h
      | inl q2 =>
        obtain ⟨b, t2, l2⟩ := q2
        rw [hr] at h
        exact ⟨a, t1, l1, rfl, c, b, t2, l2, hr, h⟩
    · rw [if_neg c] at h; cases h
theorem pOrd_inv {C V : Int → Int} {S : Int → Int → PR SXC} {T : Int → Int → PR TXC} {tk lv : Int} {r : CXC × Int × Int} (h : pOrd C V S T tk lv = .inl r) : (C tk = 21 ∧ pTwo C V S T 21 22 tk lv = .inl r) ∨ (C tk = 24 ∧ pTwo C V S T 24 25 tk lv = .inl r) ∨ (C tk = 23 ∧ ∃ a t1 l1, S (tk + 1) lv = .inl (a, t1, l1) ∧ pTm C V T 23 (some a) none t1 l1 = .inl r) ∨ (C tk = 26 ∧ pTm C V T 26 none none (tk + 1) lv = .inl r) := by
  unfold pOrd at h
  by_cases c1 : C tk = 21
  · rw [if_pos c1] at h; exact Or.inl ⟨c1, h⟩
  rw [if_neg c1] at h
  by_cases c2 : C tk = 24
  · rw [if_pos c2] at h; exact Or.inr (Or.inl ⟨c2, h⟩)
  rw [if_neg c2] at h
  by_cases c3 : C tk = 23
  · rw [if_pos c3] at h
    cases hq : S (tk + 1) lv with
    | inr t' => rw [hq] at h; cases h
    | inl q =>
      obtain ⟨a, t1, l1⟩ := q
      rw [hq] at h
      exact Or.inr (Or.inr (Or.inl ⟨c3, a, t1, l1, rfl, h⟩))
  rw [if_neg c3] at h
  by_cases c4 : C tk = 26
  · rw [if_pos c4] at h; exact Or.inr (Or.inr (Or.inr ⟨c4, h⟩))
  · rw [if_neg c4] at h; cases h
theorem opS_len (a : SXC) : ((opS (some a)).length : Int) = (a.2.length : Int) + 1 := by
  show ((a.2 ++ [((46 : Int), (0 : Int))]).length : Int) = _
  rw [List.length_append]
  rfl
theorem opT_len (x : TXC) (z : Int) : ((opT (some x) z).length : Int) = ((x.2 z).length : Int) + 1 := by
  show ((x.2 z ++ [((46 : Int), (0 : Int))]).length : Int) = _
  rw [List.length_append]
  rfl
theorem lyC_len (z : Int) (q : CXC) : ((lyC z q).length : Int) = ((opS q.2.1).length : Int) + ((opS q.2.2.1).length : Int) + ((opT q.2.2.2.2 (z + (opS q.2.1).length + (opS q.2.2.1).length)).length : Int) := by
  unfold lyC
  rw [List.length_append, List.length_append]
  omega
section ONE
variable {C V st vl wd : Int → Int} {sz N : Int} {wv : Int → Int → Int} {S : Int → Int → PR SXC} {T : Int → Int → PR TXC}
theorem co_tail (hNe : C N = 0) (hGT : GP N T) (hT : GT st vl wd sz wv N T) {hd : Int} {a b : Option SXC} {tm t l : Int} {q : CXC} {t2 l2 : Int} (h : pTail C T hd a b tm t l = .inl (q, t2, l2)) (t1 : 1 ≤ t) (tN : t ≤ N) (l0 : 0 ≤ l) (l1 : l ≤ 50) : (∃ x, q = (hd, a, b, tm, x) ∧ (∀ y, x = some y → ∃ n, 1 ≤ n ∧ n ≤ 50 ∧ MT st vl wd sz (y.1 wv) y.2 n) ∧ ∀ z, ((opT x z).length : Int) ≤ t2 - t) := by
  rcases pTail_inv h with ⟨c, e⟩ | ⟨c, x, t3, l3, e1, e2⟩
  · cases e
    exact ⟨none, rfl, fun y hy => (by cases hy), fun z => by show (0 : Int) ≤ _; omega⟩
  · cases e2
    have hne : t ≠ N := fun e => by rw [e, hNe] at c; omega
    obtain ⟨f1, f2, f3⟩ := hT (t + 1) l _ _ _ (by omega) (by omega) l0 l1 e1
    have hg := (hGT (t + 1) l (by omega) (by omega) l0 l1).1 _ _ _ e1
    refine ⟨some x, rfl, fun y hy => ?_, fun z => ?_⟩
    · cases hy
      exact ⟨_, by omega, by omega, f2⟩
    · rw [opT_len]
      have := f3 z
      omega
theorem co_tm (hNe : C N = 0) (hGT : GP N T) (hT : GT st vl wd sz wv N T) {hd : Int} {a b : Option SXC} {t l : Int} {q : CXC} {t2 l2 : Int} (h : pTm C V T hd a b t l = .inl (q, t2, l2)) (t1 : 1 ≤ t) (tN : t ≤ N) (l0 : 0 ≤ l) (l1 : l ≤ 50) : (∃ tm x, q = (hd, a, b, tm, x) ∧ (1 ≤ tm ∧ tm ≤ 20) ∧ (∀ y, x = some y → ∃ n, 1 ≤ n ∧ n ≤ 50 ∧ MT st vl wd sz (y.1 wv) y.2 n) ∧ ∀ z, ((opT x z).length : Int) ≤ t2 - t) := by
  rcases pTm_inv h with ⟨c, c2, e⟩ | ⟨c, e⟩
  · have hne : t ≠ N := fun e => by rw [e, hNe] at c; omega
    have hne1 : t + 1 ≠ N := fun e => by rw [e, hNe] at c2; omega
    obtain ⟨x, e1, e2, e3⟩ := co_tail hNe hGT hT e (by omega) (by omega) l0 l1
    exact ⟨_, x, e1, c2.2, e2, fun z => by have := e3 z; omega⟩
  · obtain ⟨x, e1, e2, e3⟩ := co_tail hNe hGT hT e (by omega) (by omega) l0 l1
    exact ⟨1, x, e1, by omega, e2, e3⟩
theorem co_law (hNe : C N = 0) (hGS : GP N S) (hGT : GP N T) (hS : GS st vl wd sz wv N S) (hT : GT st vl wd sz wv N T) {tk lv : Int} {q : CXC} {t2 l2 : Int} (h : pLaw C S T tk lv = .inl (q, t2, l2)) (t1 : 0 ≤ tk) (tN : tk ≤ N) (l0 : 0 ≤ lv) (l1 : lv ≤ 50) : CXk st vl wd sz wv q ∧ CXh 0 q ∧ ∀ z, ((lyC z q).length : Int) ≤ t2 - tk := by
  rcases pLaw_inv h with ⟨c, a, t3, l3, e1, e2⟩ | ⟨c, e2⟩
  · have hne : tk ≠ N := fun e => by rw [e, hNe] at c; omega
    obtain ⟨f1, f2, f3⟩ := hS (tk + 1) lv _ _ _ (by omega) (by omega) l0 l1 e1
    have hg := (hGS (tk + 1) lv (by omega) (by omega) l0 l1).1 _ _ _ e1
    obtain ⟨x, e4, e5, e6⟩ := co_tail hNe hGT hT e2 (by omega) (by omega) (by omega) (by omega)
    subst e4
    refine ⟨⟨fun y hy => ?_, fun y hy => (by cases hy), e5⟩, ?_, fun z => ?_⟩
    · cases hy
      exact ⟨_, by omega, by omega, f2⟩
    · unfold CXh
      rw [if_neg (by decide)]
      exact ⟨Or.inl ⟨c, rfl⟩, rfl, rfl⟩
    · rw [lyC_len]
      have h1 := opS_len a
      have h2 := e6 (z + (opS (some a)).length + (opS none).length)
      show ((opS (some a)).length : Int) + ((opS none).length : Int) + _ ≤ _
      have h3 : ((opS none).length : Int) = 0 := rfl
      dsimp only
      omega
  · have hne : tk ≠ N := fun e => by rw [e, hNe] at c; omega
    obtain ⟨x, e4, e5, e6⟩ := co_tail hNe hGT hT e2 (by omega) (by omega) (by omega) (by omega)
    subst e4
    refine ⟨⟨fun y hy => (by cases hy), fun y hy => (by cases hy), e5⟩, ?_, fun z => ?_⟩
    · unfold CXh
      rw [if_neg (by decide)]
      exact ⟨Or.inr ⟨rfl, rfl⟩, rfl, rfl⟩
    · rw [lyC_len]
      have h2 := e6 (z + (opS none).length + (opS none).length)
      have h3 : ((opS none).length : Int) = 0 := rfl
      dsimp only
      omega
theorem co_two (hNe : C N = 0) (hGS : GP N S) (hGT : GP N T) (hS : GS st vl wd sz wv N S) (hT : GT st vl wd sz wv N T) {hd mid tk lv : Int} {q : CXC} {t2 l2 : Int} (hm : mid ≠ 0) (hhd : hd = 21 ∨ hd = 24) (h : pTwo C V S T hd mid tk lv = .inl (q, t2, l2)) (t1 : 0 ≤ tk) (tN : tk < N) (l0 : 0 ≤ lv) (l1 : lv ≤ 50) : CXk st vl wd sz wv q ∧ CXh 1 q ∧ ∀ z, ((lyC z q).length : Int) ≤ t2 - tk := by
  obtain ⟨a, t3, l3, e1, c, b, t4, l4, e2, e3⟩ := pTwo_inv h
  obtain ⟨f1, f2, f3⟩ := hS (tk + 1) lv _ _ _ (by omega) (by omega) l0 l1 e1
  have hg := (hGS (tk + 1) lv (by omega) (by omega) l0 l1).1 _ _ _ e1
  have hne : t3 ≠ N := fun e => by rw [e, hNe] at c; exact hm c.symm
  obtain ⟨g1, g2, g3⟩ := hS (t3 + 1) l3 _ _ _ (by omega) (by omega) (by omega) (by omega) e2
  have hg2 := (hGS (t3 + 1) l3 (by omega) (by omega) (by omega) (by omega)).1 _ _ _ e2
  obtain ⟨tm, x, e4, etm, e5, e6⟩ := co_tm hNe hGT hT e3 (by omega) (by omega) (by omega) (by omega)
  subst e4
  refine ⟨⟨fun y hy => ?_, fun y hy => ?_, e5⟩, ?_, fun z => ?_⟩
  · cases hy
    exact ⟨_, by omega, by omega, f2⟩
  · cases hy
    exact ⟨_, by omega, by omega, g2⟩
  · unfold CXh
    rw [if_pos rfl]
    exact ⟨Or.inl ⟨hhd, rfl, rfl⟩, etm⟩
  · rw [lyC_len]
    have h1 := opS_len a
    have h3 := opS_len b
    have h2 := e6 (z + (opS (some a)).length + (opS (some b)).length)
    dsimp only
    omega
theorem co_ord (hNe : C N = 0) (hGS : GP N S) (hGT : GP N T) (hS : GS st vl wd sz wv N S) (hT : GT st vl wd sz wv N T) {tk lv : Int} {q : CXC} {t2 l2 : Int} (h : pOrd C V S T tk lv = .inl (q, t2, l2)) (t1 : 0 ≤ tk) (tN : tk ≤ N) (l0 : 0 ≤ lv) (l1 : lv ≤ 50) : CXk st vl wd sz wv q ∧ CXh 1 q ∧ ∀ z, ((lyC z q).length : Int) ≤ t2 - tk := by
  have hne : C tk ≠ 0 → tk ≠ N := fun q e => q (by rw [e, hNe])
  rcases pOrd_inv h with ⟨c, e⟩ | ⟨c, e⟩ | ⟨c, a, t3, l3, e1, e⟩ | ⟨c, e⟩
  · have := hne (by omega)
    exact co_two hNe hGS hGT hS hT (by decide) (Or.inl rfl) e t1 (by omega) l0 l1
  · have := hne (by omega)
    exact co_two hNe hGS hGT hS hT (by decide) (Or.inr rfl) e t1 (by omega) l0 l1
  · have := hne (by omega)
    obtain ⟨f1, f2, f3⟩ := hS (tk + 1) lv _ _ _ (by omega) (by omega) l0 l1 e1
    have hg := (hGS (tk + 1) lv (by omega) (by omega) l0 l1).1 _ _ _ e1
    obtain ⟨tm, x, e4, etm, e5, e6⟩ := co_tm hNe hGT hT e (by omega) (by omega) (by omega) (by omega)
    subst e4
    refine ⟨⟨fun y hy => ?_, fun y hy => (by cases hy), e5⟩, ?_, fun z => ?_⟩
    · cases hy
      exact ⟨_, by omega, by omega, f2⟩
    · unfold CXh
      rw [if_pos rfl]
      exact ⟨Or.inr (Or.inl ⟨rfl, rfl, rfl⟩), etm⟩
    · rw [lyC_len]
      have h1 := opS_len a
      have h2 := e6 (z + (opS (some a)).length + (opS none).length)
      have h3 : ((opS none).length : Int) = 0 := rfl
      dsimp only
      omega
  · have := hne (by omega)
    obtain ⟨tm, x, e4, etm, e5, e6⟩ := co_tm hNe hGT hT e (by omega) (by omega) (by omega) (by omega)
    subst e4
    refine ⟨⟨fun y hy => (by cases hy), fun y hy => (by cases hy), e5⟩, ?_, fun z => ?_⟩
    · unfold CXh
      rw [if_pos rfl]
      exact ⟨Or.inr (Or.inr ⟨rfl, rfl, rfl⟩), etm⟩
    · rw [lyC_len]
      have h2 := e6 (z + (opS none).length + (opS none).length)
      have h3 : ((opS none).length : Int) = 0 := rfl
      dsimp only
      omega
end ONE
theorem co_one {C V st vl wd : Int → Int} {sz N io fw lw : Int} (hsz : sz ≤ 1000) {wv : Int → Int → Int} (hNe : C N = 0) (hVr : ∀ k, 0 ≤ k → k < N → 0 ≤ V k) (hio : (io = 0 ∧ fw = 9 ∧ lw = 16) ∨ (io = 1 ∧ fw = 14 ∧ lw = 20)) (hw : wdR wd wv io fw lw) {tk lv : Int} {q : CXC} {t2 l2 : Int} (h : pOne C V io fw lw tk lv = .inl (q, t2, l2)) (t1 : 0 ≤ tk) (tN : tk ≤ N) (l0 : 0 ≤ lv) (l1 : lv ≤ 50) : CXk st vl wd sz wv q ∧ CXh io q ∧ ∀ z, ((lyC z q).length : Int) ≤ t2 - tk := by
  have hf : 0 < fw := by omega
  have g1 := pS_R (C := C) (V := V) (io := io) (fw := fw) (lw := lw) hNe hf 9
  have g2 := pT_R (C := C) (V := V) (io := io) (fw := fw) (lw := lw) hNe hf 9
  have s1 := gs_S (st := st) (vl := vl) (sz := sz) hNe hVr hio hw 9
  have s2 := gt_T (st := st) (vl := vl) hsz hNe hVr hio hw 9
  unfold pOne at h
  rcases hio with ⟨rfl, rfl, rfl⟩ | ⟨rfl, rfl, rfl⟩
  · rw [if_neg (by decide)] at h
    exact co_law hNe g1 g2 s1 s2 h t1 tN l0 l1
  · rw [if_pos rfl] at h
    exact co_ord hNe g1 g2 s1 s2 h t1 tN l0 l1
theorem co_mo {C V st vl wd : Int → Int} {sz N io fw lw : Int} (hsz : sz ≤ 1000) {wv : Int → Int → Int} (hNe : C N = 0) (hVr : ∀ k, 0 ≤ k → k < N → 0 ≤ V k) (hio : (io = 0 ∧ fw = 9 ∧ lw = 16) ∨ (io = 1 ∧ fw = 14 ∧ lw = 20)) (hw : wdR wd wv io fw lw) : ∀ (k : Nat) (n : Int) (cs0 : List CXC) (tk lv : Int) (cs : List CXC) (t l : Int), 1 ≤ tk → tk ≤ N → 0 ≤ lv → lv ≤ 50 → (∀ q ∈ cs0, CXk st vl wd sz wv q ∧ CXh io q) → pMo C (pOne C V io fw lw) k n cs0 tk lv = .inl (cs, t, l) → ∀ q ∈ cs, CXk st vl wd sz wv q ∧ CXh io q
  | 0, n, cs0, tk, lv, cs, t, l, h1, h2, h3, h4, h5, h => by cases h
  | k + 1, n, cs0, tk, lv, cs, t, l, h1, h2, h3, h4, h5, h => by
    simp only [pMo] at h
    by_cases c : C tk = 159
    · rw [if_pos c] at h
      have hne : tk ≠ N := fun e => by rw [e, hNe] at c; omega
      by_cases c2 : n = 12
      · rw [if_pos c2] at h; cases h
      rw [if_neg c2] at h
      cases hq : pOne C V io fw lw (tk + 1) lv with
      | inr t' => rw [hq] at h; cases h
      | inl q =>
        obtain ⟨q1, t1, l1⟩ := q
        rw [hq] at h
        dsimp only at h
        have hg := (pOne_R (C := C) (V := V) (io := io) (fw := fw) (lw := lw) hNe (by omega) (tk + 1) lv (by omega) (by omega) h3 h4).1 _ _ _ hq
        have ho := co_one (st := st) (vl := vl) hsz hNe hVr hio hw hq (by omega) (by omega) h3 h4
        refine co_mo hsz hNe hVr hio hw k (n + 1) (cs0 ++ [q1]) t1 l1 cs t l (by omega) (by omega) (by omega) (by omega) (fun q hq2 => ?_) h
        rcases List.mem_append.mp hq2 with e | e
        · exact h5 q e
        · rw [List.mem_singleton.mp e]
          exact ⟨ho.1, ho.2.1⟩
    · rw [if_neg c] at h
      cases h
      exact h5
theorem co_rd {C V st vl wd : Int → Int} {sz N io fw lw : Int} (hsz : sz ≤ 1000) {wv : Int → Int → Int} (hN0 : 0 ≤ N) (hNe : C N = 0) (hVr : ∀ k, 0 ≤ k → k < N → 0 ≤ V k) (hio : (io = 0 ∧ fw = 9 ∧ lw = 16) ∨ (io = 1 ∧ fw = 14 ∧ lw = 20)) (hw : wdR wd wv io fw lw) {cs : List CXC} {t l : Int} (h : pRd C V N io fw lw = .inl (cs, t, l)) : ∀ q ∈ cs, CXk st vl wd sz wv q ∧ CXh io q := by
  unfold pRd at h
  cases hq : pOne C V io fw lw 0 0 with
  | inr t' => rw [hq] at h; cases h
  | inl q =>
    obtain ⟨q1, t1, l1⟩ := q
    rw [hq] at h
    dsimp only at h
    have hg := (pOne_R (C := C) (V := V) (io := io) (fw := fw) (lw := lw) hNe (by omega) 0 0 (by omega) (by omega) (by omega) (by omega)).1 _ _ _ hq
    have ho := co_one (st := st) (vl := vl) hsz hNe hVr hio hw hq (by omega) (by omega) (by omega) (by omega)
    cases hr : pMo C (pOne C V io fw lw) 13 1 [q1] t1 l1 with
    | inr t' => rw [hr] at h; cases h
    | inl r =>
      obtain ⟨cs1, t2, l2⟩ := r
      rw [hr] at h
      dsimp only at h
      by_cases c : t2 < N
      · rw [if_pos c] at h; cases h
      rw [if_neg c] at h
      have hz : cs1 = cs := (Prod.mk.inj (Sum.inl.inj h)).1
      subst hz
      exact co_mo hsz hNe hVr hio hw 13 1 [q1] t1 l1 cs1 t2 l2 (by omega) (by omega) (by omega) (by omega) (fun q hq2 => by rw [List.mem_singleton.mp hq2]; exact ⟨ho.1, ho.2.1⟩) hr
/-! laws -/
def sumV (q : CXC) (wv : Int → Int → Int) : Option Int := match q.2.1 with
  | some a => a.1 wv
  | none => some 1
def tstV (q : CXC) (wv : Int → Int → Int) : Option Int := match q.2.2.2.2 with
  | some x => x.1 wv
  | none => some 1
def cl99 (v : Int) : Int := if v < 0 then 0 else if 99 < v then 99 else v
def tnO (is head : Int) (o1 o2 : Option Int) (told : Int) : Int := match o1 with
  | some v => if is = head ∧ o2 = some 1 then cl99 v else told
  | none => told
def TLV (wv : Int → Int → Int) (head told : Int) (cs : List CXC) : Int := cs.foldl (fun t q => tnO q.1 head (sumV q wv) (tstV q wv) t) told
abbrev rep (o : Option Int) (v b : Int) : Prop := (o = some v ∧ b = 0) ∨ (o = none ∧ b = 1)
theorem tn_rep {is head told v1 b1 v2 b2 : Int} {o1 o2 : Option Int} (h1 : rep o1 v1 b1) (h2 : rep o2 v2 b2) : tn is head v2 b2 b1 v1 told = tnO is head o1 o2 told := by
  unfold tn tnO
  rcases h1 with ⟨rfl, rfl⟩ | ⟨rfl, rfl⟩ <;> rcases h2 with ⟨rfl, rfl⟩ | ⟨rfl, rfl⟩ <;> simp [cl99]
theorem EvS.ex {S' : Int → Int → Int → EV} {b tk t : Int} {o : Option Int} (h : EvS S' b o tk t) : ∃ v1 b1, S' 1 (b + tk) 0 = some (v1, b + t, b1) ∧ rgo v1 ∧ b01 b1 ∧ rep o v1 b1 := by
  obtain ⟨-, h2, h3⟩ := h
  cases o with
  | none => exact ⟨0, 1, h2, by omega, Or.inr rfl, Or.inr ⟨rfl, rfl⟩⟩
  | some v => exact ⟨v, 0, h2, h3 v rfl, Or.inl rfl, Or.inl ⟨rfl, rfl⟩⟩
theorem EvB.ex {T' : Int → Int → Int → EV} {b tk t : Int} {o : Option Int} (h : EvB T' b o tk t) : ∃ v1 b1, T' 1 (b + tk) 0 = some (v1, b + t, b1) ∧ b01 v1 ∧ b01 b1 ∧ rep o v1 b1 := by
  obtain ⟨-, h2⟩ := h
  cases o with
  | none =>
    obtain ⟨v, hv, e⟩ := h2.n rfl
    exact ⟨v, 1, e, hv, Or.inr rfl, Or.inr ⟨rfl, rfl⟩⟩
  | some v =>
    obtain ⟨hv, e⟩ := h2.s rfl
    exact ⟨v, 0, e, hv, Or.inl rfl, Or.inl ⟨rfl, rfl⟩⟩
theorem tl_clause {C V C' V' : Int → Int} {b N : Int} {wv : Int → Int → Int} (hT : TkF C V C' V' b N) (hw : ∀ c k, 9 ≤ c → c ≤ 16 → rgo (wv c k)) {tk lv : Int} {q : CXC} {t l : Int} (h : pLaw C (pS C V 0 9 16 9) (pT C V 0 9 16 9) tk lv = .inl (q, t, l)) (h1 : 0 ≤ tk) (h2 : tk < N) (h3 : 0 ≤ lv) (h4 : lv ≤ 50) (k : Nat) (told head : Int) : tlL C' (sE C' V' wv 0 9) (tsE C' (sE C' V' wv 0 9) 9) (b + N) head (k + 1) told (b + tk) = tlL C' (sE C' V' wv 0 9) (tsE C' (sE C' V' wv 0 9) 9) (b + N) head k (tnO q.1 head (sumV q wv) (tstV q wv) told) (b + t + 1) := by
  have hio : ((0 : Int) = 0 ∧ (9 : Int) = 9 ∧ (16 : Int) = 16) ∨ ((0 : Int) = 1 ∧ (9 : Int) = 14 ∧ (16 : Int) = 20) := Or.inl ⟨rfl, rfl, rfl⟩
  have hES := ev_S hT hio hw 9 9 (Nat.le_refl _)
  have hET := ev_T hT hio hw 9 9 9 (Nat.le_refl _) (Nat.le_refl _)
  have hGS := pS_R (C := C) (V := V) (io := 0) (fw := 9) (lw := 16) hT.2.1 (by decide) 9
  have hGT := pT_R (C := C) (V := V) (io := 0) (fw := 9) (lw := 16) hT.2.1 (by decide) 9
  generalize sE C' V' wv 0 9 = S' at *
  generalize tsE C' S' 9 = T' at *
  obtain ⟨⟨hb0, hbN, hN4⟩, hNe, hC, hV⟩ := hT
  have hCt := hC tk (by omega) (by omega)
  rw [tlL, if_neg (by omega), if_neg (by omega), hCt]
  have key : ∀ (a : Option SXC) (t1 l1 v1 b1 : Int), 1 ≤ t1 → t1 ≤ N → 0 ≤ l1 → l1 ≤ 50 → rgo v1 → b01 b1 → rep (match a with | some x => x.1 wv | none => some 1) v1 b1 → pTail C (pT C V 0 9 16 9) (C tk) a none 1 t1 l1 = .inl (q, t, l) → (match (some (v1, b + t1, b1) : EV) with
      | none => none
      | some a => if (0 ≤ a.2.1 ∧ a.2.1 ≤ 2800) ∧ rgo a.1 ∧ b01 a.2.2 then (if C' a.2.1 = 5 then (match T' 1 (a.2.1 + 1) 0 with
          | none => none
          | some t => if (0 ≤ t.2.1 ∧ t.2.1 ≤ 2800) ∧ b01 t.1 ∧ b01 t.2.2 then tlL C' S' T' (b + N) head k (tn (C tk) head t.1 t.2.2 a.2.2 a.1 told) (t.2.1 + 1) else none)
        else tlL C' S' T' (b + N) head k (tn (C tk) head 1 0 a.2.2 a.1 told) (a.2.1 + 1)) else none) = tlL C' S' T' (b + N) head k (tnO q.1 head (sumV q wv) (tstV q wv) told) (b + t + 1) := by
    intro a t1 l1 v1 b1 g1 g2 g3 g4 g5 g6 g7 hTl
    have hC1 := hC t1 (by omega) g2
    dsimp only
    rw [if_pos ⟨by omega, g5, g6⟩, hC1]
    rcases pTail_inv hTl with ⟨c, e⟩ | ⟨c, x, t3, l3, e1, e2⟩
    · cases e
      rw [if_neg c, tn_rep g7 (o2 := some 1) (Or.inl ⟨rfl, rfl⟩)]
      rfl
    · cases e2
      have hne : t1 ≠ N := fun e => by rw [e, hNe] at c; omega
      have hg := (hGT (t1 + 1) l1 (by omega) (by omega) g3 g4).1 _ _ _ e1
      obtain ⟨v2, b2, f1, f2, f3, f4⟩ := (hET (t1 + 1) l1 _ _ _ (by omega) (by omega) g3 g4 e1).ex
      rw [if_pos c, show b + t1 + 1 = b + (t1 + 1) by omega, f1]
      dsimp only
      rw [if_pos ⟨by omega, f2, f3⟩, tn_rep g7 f4]
      rfl
  rcases pLaw_inv h with ⟨c, a, t1, l1, e1, e2⟩ | ⟨c, e2⟩
  · have hg := (hGS (tk + 1) lv (by omega) (by omega) h3 h4).1 _ _ _ e1
    obtain ⟨v1, b1, f1, f2, f3, f4⟩ := (hES (tk + 1) lv _ _ _ (by omega) (by omega) h3 h4 e1).ex
    rw [if_neg (by omega), show b + tk + 1 = b + (tk + 1) by omega, f1]
    exact key (some a) t1 l1 v1 b1 (by omega) (by omega) (by omega) (by omega) f2 f3 f4 e2
  · rw [if_pos c, show b + tk + 1 = b + (tk + 1) by omega]
    rw [← c] at e2
    exact key none (tk + 1) lv 1 0 (by omega) (by omega) h3 h4 (by omega) (Or.inl rfl) (Or.inl ⟨rfl, rfl⟩) e2
theorem tl_chain {C V C' V' : Int → Int} {b N : Int} {wv : Int → Int → Int} (hT : TkF C V C' V' b N) (hw : ∀ c k, 9 ≤ c → c ≤ 16 → rgo (wv c k)) (head wo : Int) : ∀ (k k' : Nat) (n : Int) (cs0 : List CXC) (tk lv : Int) (cs : List CXC) (t l : Int), 1 ≤ tk → tk ≤ N → 0 ≤ lv → lv ≤ 50 → k < k' → pMo C (pOne C V 0 9 16) k n cs0 tk lv = .inl (cs, t, l) → ¬ t < N → tlL C' (sE C' V' wv 0 9) (tsE C' (sE C' V' wv 0 9) 9) (b + N) head k' (TLV wv head wo cs0) (b + tk + 1) = some (TLV wv head wo cs)
  | 0, k', n, cs0, tk, lv, cs, t, l, h1, h2, h3, h4, h5, h, h6 => by cases h
  | k + 1, k', n, cs0, tk, lv, cs, t, l, h1, h2, h3, h4, h5, h, h6 => by
    obtain ⟨j, rfl⟩ : ∃ j, k' = j + 1 := ⟨k' - 1, by omega⟩
    have hNe := hT.2.1
    simp only [pMo] at h
    by_cases c : C tk = 159
    · rw [if_pos c] at h
      have hne : tk ≠ N := fun e => by rw [e, hNe] at c; omega
      by_cases c2 : n = 12
      · rw [if_pos c2] at h; cases h
      rw [if_neg c2] at h
      cases hq : pOne C V 0 9 16 (tk + 1) lv with
      | inr t' => rw [hq] at h; cases h
      | inl q =>
        obtain ⟨q1, t1, l1⟩ := q
        rw [hq] at h
        dsimp only at h
        have hg := (pOne_R (C := C) (V := V) (io := 0) (fw := 9) (lw := 16) hNe (by decide) (tk + 1) lv (by omega) (by omega) h3 h4).1 _ _ _ hq
        have hq2 : pLaw C (pS C V 0 9 16 9) (pT C V 0 9 16 9) (tk + 1) lv = .inl (q1, t1, l1) := by
          unfold pOne at hq
          rw [if_neg (by decide)] at hq
          exact hq
        rw [show b + tk + 1 = b + (tk + 1) by omega, tl_clause hT hw hq2 (by omega) (by omega) h3 h4]
        have e : tnO q1.1 head (sumV q1 wv) (tstV q1 wv) (TLV wv head wo cs0) = TLV wv head wo (cs0 ++ [q1]) := by
          unfold TLV
          rw [List.foldl_append]
          rfl
        rw [e]
        exact tl_chain hT hw head wo k j (n + 1) (cs0 ++ [q1]) t1 l1 cs t l (by omega) (by omega) (by omega) (by omega) (by omega) h h6
    · rw [if_neg c] at h
      cases h
      rw [tlL, if_pos (by omega)]
theorem tl_all {C V C' V' : Int → Int} {b N : Int} {wv : Int → Int → Int} (hT : TkF C V C' V' b N) (hN0 : 0 ≤ N) (hw : ∀ c k, 9 ≤ c → c ≤ 16 → rgo (wv c k)) (head wo : Int) {cs : List CXC} {t l : Int} (h : pRd C V N 0 9 16 = .inl (cs, t, l)) : tlL C' (sE C' V' wv 0 9) (tsE C' (sE C' V' wv 0 9) 9) (b + N) head 20 wo b = some (TLV wv head wo cs) := by
  have hNe := hT.2.1
  unfold pRd at h
  cases hq : pOne C V 0 9 16 0 0 with
  | inr t' => rw [hq] at h; cases h
  | inl q =>
    obtain ⟨q1, t1, l1⟩ := q
    rw [hq] at h
    dsimp only at h
    have hg := (pOne_R (C := C) (V := V) (io := 0) (fw := 9) (lw := 16) hNe (by decide) 0 0 (by omega) (by omega) (by omega) (by omega)).1 _ _ _ hq
    have hq2 : pLaw C (pS C V 0 9 16 9) (pT C V 0 9 16 9) 0 0 = .inl (q1, t1, l1) := by
      unfold pOne at hq
      rw [if_neg (by decide)] at hq
      exact hq
    cases hr : pMo C (pOne C V 0 9 16) 13 1 [q1] t1 l1 with
    | inr t' => rw [hr] at h; cases h
    | inl r =>
      obtain ⟨cs1, t2, l2⟩ := r
      rw [hr] at h
      dsimp only at h
      by_cases c : t2 < N
      · rw [if_pos c] at h; cases h
      rw [if_neg c] at h
      have hz : cs1 = cs := (Prod.mk.inj (Sum.inl.inj h)).1
      subst hz
      have h0 := tl_clause hT hw hq2 (by omega) (by omega) (by omega) (by omega) 19 wo head
      rw [show b + (0 : Int) = b by omega] at h0
      rw [h0]
      exact tl_chain hT hw head wo 13 19 1 [q1] t1 l1 cs1 t2 l2 (by omega) (by omega) (by omega) (by omega) (by omega) hr c
/-- law f of the reference's row, as a text of the class -/
def LWok (K : Int → Int) (f : Int) (t : TD) : Prop := ∃ (C V : Int → Int) (cs : List CXC) (t' l : Int), pRd C V (K (26 + f)) 0 9 16 = .inl (cs, t', l) ∧ 0 ≤ K (26 + f) ∧ TkF C V (cdA K (400 * f + K (26 + f))) (vlA K) (400 * f) (K (26 + f)) ∧ TxR 256 t.2.2.1 t.2.2.2.1 t.2.2.2.2.1 t.2.2.2.2.2.1 t.2.2.2.2.2.2.1 t.2.2.2.2.2.2.2.1 t.2.2.2.2.2.2.2.2 0 0 cs t.2.1 ∧ t.1 = (cs.length : Int) ∧ TdB t
theorem LWok.f {K : Int → Int} {f : Int} {t : TD} (h : LWok K f t) : LWF K f := by
  obtain ⟨C, V, cs, t', l, h1, h2, h3, -⟩ := h
  intro wv head wo hwv
  exact ⟨_, tl_all (wv := fun c _ => wv c) h3 h2 (fun c k c1 c2 => by have := hwv c c1 c2; show rgo (wv c); omega) head wo h1⟩
theorem LWok.same {K K' : Int → Int} {f : Int} {t : TD} (h : LWok K f t) (f0 : 0 ≤ f) (e : ∀ j, 26 ≤ j → K' j = K j) : LWok K' f t := by
  have e1 : ∀ q, cdA K' q = cdA K q := fun q => by
    funext k
    unfold cdA
    by_cases c : 0 ≤ k ∧ k < q
    · rw [if_pos c, if_pos c, e _ (by omega)]
    · rw [if_neg c, if_neg c]
  have e2 : vlA K' = vlA K := by
    funext k
    unfold vlA
    by_cases c : 0 ≤ k ∧ k < 2800
    · rw [if_pos c, if_pos c, e _ (by omega)]
    · rw [if_neg c, if_neg c]
  unfold LWok
  rw [e _ (by omega), e1, e2]
  exact h
theorem aqW_awv {x K : Int → Int} {s p c : Int} (h1 : 9 ≤ c) (h2 : c ≤ 16) : aqW x s p (K 0) (K 23) (K 21) (c - 9) = awv K s p c := aqU_awv h1 h2
/-- a sum, a test from its beginning to its end -/
theorem MS_run {st vl wd : Int → Int} {sz n p : Int} {a : SXC} {wv : Int → Int → Int} (h : MS st vl wd sz (a.1 wv) a.2 n) (hn : n ≤ 50) (hA : At st vl p (opS (some a))) (hp : p + ((opS (some a)).length : Int) ≤ sz) (sk : Int → Int) : mach st vl wd (sz - p).toNat p 0 sk p = some ((a.1 wv).getD 0, if (a.1 wv).isSome then 0 else 1) := by
  have hl := opS_len a
  have hA2 : At st vl p (a.2 ++ [(46, 0)]) := hA
  obtain ⟨r1, r2⟩ := h.2 p 0 sk p (by omega) (by omega) (by omega) hA2.le (by omega)
  have he := hA2.ri.hd
  show Mc st vl wd sz p 0 sk p = _
  cases ho : a.1 wv with
  | none => rw [r2 ho]; rfl
  | some v =>
    obtain ⟨sk', -, s2, s3⟩ := r1 v ho
    have hr := h.1 v ho
    rw [s3, Mc_end (by omega) (by omega) (by omega) (by omega) he.1 (by rw [show (0 : Int) + 1 - 1 = 0 by omega, s2]; exact hr), show (0 : Int) + 1 - 1 = 0 by omega, s2]
    rfl
theorem MT_run {st vl wd : Int → Int} {sz n p : Int} {a : TXC} {wv : Int → Int → Int} (h : MT st vl wd sz (a.1 wv) a.2 n) (hn : n ≤ 50) (p0 : 0 ≤ p) (hA : At st vl p (opT (some a) p)) (hp : p + ((opT (some a) p).length : Int) ≤ sz) (sk : Int → Int) : mach st vl wd (sz - p).toNat p 0 sk p = some ((a.1 wv).getD 0, if (a.1 wv).isSome then 0 else 1) := by
  have hl := opT_len a p
  have hA2 : At st vl p (a.2 p ++ [(46, 0)]) := hA
  obtain ⟨r1, r2⟩ := h.2 p 0 sk p p0 (by omega) (by omega) (by omega) hA2.le (by omega)
  have he := hA2.ri.hd
  show Mc st vl wd sz p 0 sk p = _
  cases ho : a.1 wv with
  | none => rw [r2 ho]; rfl
  | some v =>
    obtain ⟨sk', sp', s0, -, s2, s3⟩ := r1 v ho
    have hr := h.1 v ho
    rw [s3, Mc_end (by omega) s0 (by omega) (by omega) he.1 (by rw [show (0 : Int) + 1 - 1 = 0 by omega, s2]; omega), show (0 : Int) + 1 - 1 = 0 by omega, s2]
    rfl
theorem lyC_s1 {st vl : Int → Int} {z ze : Int} {q : CXC} {a : SXC} (hA : At st vl z (lyC z q)) (h : z + ((lyC z q).length : Int) ≤ ze) (e : q.2.1 = some a) : At st vl z (opS (some a)) ∧ z + ((opS (some a)).length : Int) ≤ ze := by
  have hl := lyC_len z q
  rw [e] at hl
  unfold lyC at hA
  rw [e] at hA
  exact ⟨hA.le.le, by omega⟩
theorem lyC_s2 {st vl : Int → Int} {z ze : Int} {q : CXC} {a : SXC} (hA : At st vl z (lyC z q)) (h : z + ((lyC z q).length : Int) ≤ ze) (e : q.2.2.1 = some a) : At st vl (z + ((opS q.2.1).length : Int)) (opS (some a)) ∧ z + ((opS q.2.1).length : Int) + ((opS (some a)).length : Int) ≤ ze := by
  have hl := lyC_len z q
  rw [e] at hl
  unfold lyC at hA
  rw [e] at hA
  exact ⟨hA.le.ri, by omega⟩
theorem lyC_t {st vl : Int → Int} {z ze : Int} {q : CXC} {x : TXC} (hA : At st vl z (lyC z q)) (h : z + ((lyC z q).length : Int) ≤ ze) (e : q.2.2.2.2 = some x) : At st vl (z + ((opS q.2.1).length : Int) + ((opS q.2.2.1).length : Int)) (opT (some x) (z + ((opS q.2.1).length : Int) + ((opS q.2.2.1).length : Int))) ∧ z + ((opS q.2.1).length : Int) + ((opS q.2.2.1).length : Int) + ((opT (some x) (z + ((opS q.2.1).length : Int) + ((opS q.2.2.1).length : Int))).length : Int) ≤ ze := by
  have hl := lyC_len z q
  rw [e] at hl
  unfold lyC at hA
  rw [e] at hA
  have hr := hA.ri
  rw [List.length_append, show z + (((opS q.2.1).length + (opS q.2.2.1).length : Nat) : Int) = z + ((opS q.2.1).length : Int) + ((opS q.2.2.1).length : Int) by omega] at hr
  exact ⟨hr, by omega⟩
def tvF (wv : Int → Int → Int) (cs : List CXC) (c : Int) : Int := match cs[c.toNat]? with
  | some q => (tstV q wv).getD 0
  | none => 0
def fvF (wv : Int → Int → Int) (cs : List CXC) (c : Int) : Int := match cs[c.toNat]? with
  | some q => (sumV q wv).getD 0
  | none => 0
def fbF (wv : Int → Int → Int) (cs : List CXC) (c : Int) : Int := match cs[c.toNat]? with
  | some q => if (sumV q wv).isSome then 0 else 1
  | none => 0
theorem tvF_at {wv : Int → Int → Int} {cs : List CXC} {c : Int} {q : CXC} (h : cs[c.toNat]? = some q) : tvF wv cs c = (tstV q wv).getD 0 ∧ fvF wv cs c = (sumV q wv).getD 0 ∧ fbF wv cs c = if (sumV q wv).isSome then 0 else 1 := by
  unfold tvF fvF fbF
  rw [h]
  exact ⟨rfl, rfl, rfl⟩
theorem text_ev {hb sz : Int} {kn ff sc ts mm st vl wd : Int → Int} {wv : Int → Int → Int} {cs : List CXC} (hX : TxR hb kn ff sc ts mm st vl 0 0 cs sz) (hk : ∀ q ∈ cs, CXk st vl wd sz wv q) : EvT ts ff st vl wd sz (tvF wv cs) (fvF wv cs) (fbF wv cs) (cs.length : Int) := by
  intro c c0 c1
  obtain ⟨q, hq⟩ : ∃ q, cs[c.toNat]? = some q := ⟨_, List.getElem?_eq_getElem (by omega)⟩
  obtain ⟨z, z0, ⟨-, k2, -, k4, -, k6⟩, k7⟩ := (TxR_at cs 0 0 sz hX).2 c.toNat q hq
  rw [show (0 : Int) + ((c.toNat : Nat) : Int) = c by omega] at k2 k4
  obtain ⟨m1, -, m3⟩ := hk q (List.mem_of_getElem? hq)
  obtain ⟨v1, v2, v3⟩ := tvF_at (wv := wv) hq
  rw [v1, v2, v3]
  refine ⟨?_, ?_⟩
  · cases ht : q.2.2.2.2 with
    | none =>
      left
      rw [k4]
      unfold teC
      rw [ht]
      rfl
    | some x =>
      right
      obtain ⟨n, n1, n2, hM⟩ := m3 x ht
      obtain ⟨hA, hp⟩ := lyC_t k6 k7 ht
      have e : ts c = z + ((opS q.2.1).length : Int) + ((opS q.2.2.1).length : Int) := by rw [k4]; unfold teC; rw [ht]; rfl
      have hv : tstV q wv = x.1 wv := by unfold tstV; rw [ht]
      rw [e, hv]
      refine ⟨by omega, by omega, ?_, _, fun sk => MT_run hM n2 (by omega) hA hp sk⟩
      cases ho : x.1 wv with
      | none => show rgo 0; omega
      | some v => have := hM.1 v ho; show rgo v; omega
  · cases ht : q.2.1 with
    | none =>
      left
      rw [k2]
      unfold fiC
      rw [ht]
      rfl
    | some a =>
      right
      obtain ⟨n, n1, n2, hM⟩ := m1 a ht
      obtain ⟨hA, hp⟩ := lyC_s1 k6 k7 ht
      have e : ff c = z := by rw [k2]; unfold fiC; rw [ht]; rfl
      have hv : sumV q wv = a.1 wv := by unfold sumV; rw [ht]
      rw [e, hv]
      refine ⟨by omega, by omega, ?_, ?_, fun sk => MS_run hM n2 hA hp sk⟩
      · cases ho : a.1 wv with
        | none => show rgo 0; omega
        | some v => exact hM.1 v ho
      · cases a.1 wv with
        | none => exact Or.inr rfl
        | some v => exact Or.inl rfl
theorem cl99_e (v : Int) : max 0 (min 99 v) = cl99 v := by
  unfold cl99
  split
  · omega
  · split <;> omega
theorem text_hl {hb sz : Int} {kn ff sc ts mm st vl wd : Int → Int} {wv : Int → Int → Int} {cs : List CXC} (hX : TxR hb kn ff sc ts mm st vl 0 0 cs sz) (hk : ∀ q ∈ cs, CXk st vl wd sz wv q) {i : Nat} {q : CXC} (hq : cs[i]? = some q) : (kn (i : Int) = tkm q.1 - hb) ∧ (hlP ts ff (tvF wv cs) (fbF wv cs) (i : Int) ↔ (tstV q wv = some 1 ∧ (sumV q wv).isSome = true)) ∧ (ff (i : Int) = -1 ↔ q.2.1 = none) := by
  obtain ⟨z, z0, ⟨k1, k2, -, k4, -, k6⟩, k7⟩ := (TxR_at cs 0 0 sz hX).2 i q hq
  rw [show (0 : Int) + (i : Int) = (i : Int) by omega] at k1 k2 k4
  obtain ⟨m1, -, m3⟩ := hk q (List.mem_of_getElem? hq)
  obtain ⟨v1, v2, v3⟩ := tvF_at (wv := wv) (cs := cs) (c := (i : Int)) (q := q) (by rw [Int.toNat_natCast]; exact hq)
  have hf1 : ff (i : Int) = -1 ↔ q.2.1 = none := by
    rw [k2]
    unfold fiC
    cases q.2.1 with
    | none => exact ⟨fun _ => rfl, fun _ => rfl⟩
    | some a => exact ⟨fun e => by (have e2 : z = -1 := e); omega, fun e => by cases e⟩
  refine ⟨k1, ?_, hf1⟩
  show ((ts (i : Int) = -1 ∨ tvF wv cs (i : Int) ≠ 0) ∧ (ff (i : Int) = -1 ∨ fbF wv cs (i : Int) = 0)) ↔ _
  rw [v1, v3]
  have ht1 : (ts (i : Int) = -1 ∨ (tstV q wv).getD 0 ≠ 0) ↔ tstV q wv = some 1 := by
    rw [k4]
    unfold teC tstV
    cases ht : q.2.2.2.2 with
    | none => exact ⟨fun _ => rfl, fun _ => Or.inl rfl⟩
    | some x =>
      obtain ⟨n, n1, n2, hM⟩ := m3 x ht
      dsimp only
      cases ho : x.1 wv with
      | none => exact ⟨fun e => by rcases e with e | e; (have e2 : z + ((opS q.2.1).length : Int) + ((opS q.2.2.1).length : Int) = -1 := e); omega; exact absurd rfl e, fun e => by cases e⟩
      | some v =>
        have hb := hM.1 v ho
        constructor
        · intro e
          rcases e with e | e
          · have e2 : z + ((opS q.2.1).length : Int) + ((opS q.2.2.1).length : Int) = -1 := e
            omega
          · have e2 : v ≠ 0 := e
            rw [show v = 1 by omega]
        · intro e
          cases e
          exact Or.inr (show (1 : Int) ≠ 0 by decide)
  have hf2 : (ff (i : Int) = -1 ∨ (if (sumV q wv).isSome = true then (0 : Int) else 1) = 0) ↔ (sumV q wv).isSome = true := by
    rw [hf1]
    cases hs : sumV q wv with
    | none =>
      constructor
      · rintro (e | e)
        · unfold sumV at hs
          rw [e] at hs
          cases hs
        · exact absurd e (by decide)
      · intro e
        cases e
    | some v => exact ⟨fun _ => rfl, fun _ => Or.inr rfl⟩
  rw [ht1, hf2]
theorem text_am {sz : Int} {kn ff sc ts mm st vl wd : Int → Int} {wv : Int → Int → Int} {cs : List CXC} (hX : TxR 256 kn ff sc ts mm st vl 0 0 cs sz) (hk : ∀ q ∈ cs, CXk st vl wd sz wv q ∧ CXh 0 q) {what : Int} (w0 : 0 ≤ what) (w1 : what ≤ 2) : ∀ n : Nat, n ≤ cs.length → amF kn ts ff (tvF wv cs) (fvF wv cs) (fbF wv cs) what n = TLV wv (what + 1) 1 (cs.take n)
  | 0, hn => by rw [List.take_zero]; rfl
  | n + 1, hn => by
    obtain ⟨q, hq⟩ : ∃ q, cs[n]? = some q := ⟨_, List.getElem?_eq_getElem (by omega)⟩
    have ih := text_am hX hk w0 w1 n (by omega)
    obtain ⟨e1, e2, -⟩ := text_hl hX (fun q hq => (hk q hq).1) hq
    obtain ⟨v1, v2, v3⟩ := tvF_at (wv := wv) (cs := cs) (c := (n : Int)) (q := q) (by rw [Int.toNat_natCast]; exact hq)
    have hh := (hk q (List.mem_of_getElem? hq)).2
    have hks : kn (n : Int) = q.1 - 1 ∧ 1 ≤ q.1 ∧ q.1 ≤ 4 := by
      unfold CXh at hh
      rw [if_neg (by decide)] at hh
      have hc : q.1 = 1 ∨ q.1 = 2 ∨ q.1 = 3 ∨ q.1 = 4 := by
        rcases hh.1 with ⟨h, -⟩ | ⟨h, -⟩ <;> omega
      rw [e1]
      rcases hc with h | h | h | h <;> rw [h] <;> decide
    rw [List.take_add_one, hq]
    have eT : TLV wv (what + 1) 1 (cs.take n ++ (some q).toList) = tnO q.1 (what + 1) (sumV q wv) (tstV q wv) (TLV wv (what + 1) 1 (cs.take n)) := by
      unfold TLV
      rw [List.foldl_append]
      rfl
    rw [eT, ← ih]
    show (if kn (n : Int) = what ∧ hlP ts ff (tvF wv cs) (fbF wv cs) (n : Int) then max 0 (min 99 (fvF wv cs (n : Int))) else _) = _
    rw [v2, cl99_e]
    unfold tnO
    cases hs : sumV q wv with
    | none =>
      rw [if_neg (fun z => by have := (e2.mp z.2).2; rw [hs] at this; cases this)]
    | some v =>
      dsimp only
      by_cases c : q.1 = what + 1 ∧ tstV q wv = some 1
      · rw [if_pos c, if_pos ⟨by omega, e2.mpr ⟨c.2, by rw [hs]; rfl⟩⟩]
        rfl
      · rw [if_neg c, if_neg (fun z => c ⟨by omega, (e2.mp z.2).1⟩)]
theorem TLV_bar {wv : Int → Int → Int} : ∀ (cs : List CXC) (told : Int), (∀ q ∈ cs, CXh 0 q) → (TLV wv 4 told cs = 1 ↔ (told = 1 ∨ ∃ q ∈ cs, q.1 = 4 ∧ tstV q wv = some 1))
  | [], told, h => ⟨fun e => Or.inl e, fun e => by rcases e with e | ⟨q, hq, -⟩; exact e; cases hq⟩
  | q :: qs, told, h => by
    have ih := TLV_bar (wv := wv) qs (tnO q.1 4 (sumV q wv) (tstV q wv) told) (fun r hr => h r (List.mem_cons_of_mem _ hr))
    show (TLV wv 4 (tnO q.1 4 (sumV q wv) (tstV q wv) told) qs = 1 ↔ _)
    rw [ih]
    have hh := h q List.mem_cons_self
    unfold CXh at hh
    rw [if_neg (by decide)] at hh
    by_cases c : q.1 = 4 ∧ tstV q wv = some 1
    · have hn : q.2.1 = none := by
        rcases hh.1 with ⟨hz, -⟩ | ⟨-, hz⟩
        · omega
        · exact hz
      have e : tnO q.1 4 (sumV q wv) (tstV q wv) told = 1 := by
        have hs : sumV q wv = some 1 := by unfold sumV; rw [hn]
        rw [hs]
        unfold tnO
        dsimp only
        rw [if_pos c]
        decide
      exact ⟨fun _ => Or.inr ⟨q, List.mem_cons_self, c⟩, fun _ => Or.inl e⟩
    · have e : tnO q.1 4 (sumV q wv) (tstV q wv) told = told := by
        unfold tnO
        split
        · rw [if_neg c]
        · rfl
      rw [e]
      constructor
      · rintro (z | ⟨r, hr, z⟩)
        · exact Or.inl z
        · exact Or.inr ⟨r, List.mem_cons_of_mem _ hr, z⟩
      · rintro (z | ⟨r, hr, z⟩)
        · exact Or.inl z
        · rcases List.mem_cons.mp hr with rfl | hr
          · exact absurd z c
          · exact Or.inr ⟨r, hr, z⟩
theorem LWok.rel {K : Int → Int} {t : TD} (hK : KR K) (f0 : 0 ≤ K 25) (h : LWok K (K 25) t) : LawRel K t := by
  obtain ⟨C, V, cs, t', l, h1, h2, h3, h4, h5, h6⟩ := h
  refine ⟨h6, fun s p wd s0 s1 p0 p1 => ?_⟩
  have hwv := awv_R hK s0 s1 p0 p1
  have hw : ∀ c k, 9 ≤ c → c ≤ 16 → rgo ((fun (c : Int) (_ : Int) => awv K s p c) c k) := fun c k c1 c2 => by have := hwv c c1 c2; show rgo (awv K s p c); omega
  have hwd : wdR (aqW wd s p (K 0) (K 23) (K 21)) (fun c _ => awv K s p c) 0 9 16 := ⟨fun c c1 c2 _ => aqW_awv c1 c2, fun e => absurd e (by decide), hw⟩
  have hco := co_rd (st := t.2.2.2.2.2.2.2.1) (vl := t.2.2.2.2.2.2.2.2) (sz := t.2.1) (by have := h6.2.1; omega) h2 h3.2.1 (fun k k0 k1 => (h3.2.2.2 k k0 k1).2.1) (Or.inl ⟨rfl, rfl, rfl⟩) hwd h1
  have htl : ∀ head wo, tl K head s p wo = TLV (fun c _ => awv K s p c) head wo cs := fun head wo => by
    unfold tl TL lwS lwE
    rw [if_neg (by omega), tl_all (wv := fun c _ => awv K s p c) h3 h2 hw head wo h1]
    rfl
  refine ⟨tvF (fun c _ => awv K s p c) cs, fvF (fun c _ => awv K s p c) cs, fbF (fun c _ => awv K s p c) cs, ?_, fun c c0 c1 ck => ?_, ?_, fun what w0 w1 => ?_⟩
  · rw [h5]
    exact text_ev h4 (fun q hq => (hco q hq).1)
  · obtain ⟨q, hq⟩ : ∃ q, cs[c.toNat]? = some q := ⟨_, List.getElem?_eq_getElem (by omega)⟩
    have e3 := text_hl h4 (fun q hq => (hco q hq).1) hq
    rw [Int.toNat_of_nonneg c0] at e3
    have hev := text_ev h4 (fun q hq => (hco q hq).1) c c0 (by omega)
    have hne : t.2.2.2.1 c ≠ -1 := by
      rw [Ne, e3.2.2]
      intro hn
      have hh := (hco q (List.mem_of_getElem? hq)).2
      unfold CXh at hh
      rw [if_neg (by decide)] at hh
      rcases hh.1 with ⟨-, hz⟩ | ⟨hz, -⟩
      · rw [hn] at hz; cases hz
      · apply ck
        rw [e3.1, hz]
        decide
    refine ⟨hne, ?_⟩
    rcases hev.2 with z | z
    · exact absurd z hne
    · exact z.2.2.1
  · rw [htl 4 0, TLV_bar cs 0 (fun q hq => (hco q hq).2)]
    constructor
    · rintro ⟨c, c0, c1, ck, hl⟩
      obtain ⟨q, hq⟩ : ∃ q, cs[c.toNat]? = some q := ⟨_, List.getElem?_eq_getElem (by omega)⟩
      have e3 := text_hl h4 (fun q hq => (hco q hq).1) hq
      rw [Int.toNat_of_nonneg c0] at e3
      refine Or.inr ⟨q, List.mem_of_getElem? hq, ?_, (e3.2.1.mp hl).1⟩
      have hh := (hco q (List.mem_of_getElem? hq)).2
      unfold CXh at hh
      rw [if_neg (by decide)] at hh
      have hc : q.1 = 1 ∨ q.1 = 2 ∨ q.1 = 3 ∨ q.1 = 4 := by
        rcases hh.1 with ⟨h, -⟩ | ⟨h, -⟩ <;> omega
      rw [e3.1] at ck
      rcases hc with h | h | h | h
      · rw [h] at ck; exact absurd ck (by decide)
      · rw [h] at ck; exact absurd ck (by decide)
      · rw [h] at ck; exact absurd ck (by decide)
      · exact h
    · rintro (z | ⟨q, hq, z1, z2⟩)
      · exact absurd z (by decide)
      · obtain ⟨i, hi⟩ := List.getElem?_of_mem hq
        have e3 := text_hl h4 (fun q hq => (hco q hq).1) hi
        have hil := (List.getElem?_eq_some_iff.mp hi).1
        refine ⟨(i : Int), by omega, by omega, by rw [e3.1, z1]; decide, e3.2.1.mpr ⟨z2, ?_⟩⟩
        have hh := (hco q hq).2
        unfold CXh at hh
        rw [if_neg (by decide)] at hh
        have hn : q.2.1 = none := by
          rcases hh.1 with ⟨hz, -⟩ | ⟨-, hz⟩
          · omega
          · exact hz
        unfold sumV
        rw [hn]
        rfl
  · rw [htl (what + 1) 1, h5, Int.toNat_natCast, text_am h4 hco w0 w1 cs.length (Nat.le_refl _), List.take_length]
