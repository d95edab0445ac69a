/-! PURE: the codes of steps; a clause of orders on the stack -/
def AllP {α : Type} (P : Int → Int → PR α) (R : α → Prop) : Prop := ∀ tk lv a t l, P tk lv = .inl (a, t, l) → R a
theorem pLp_A {α : Type} {C : Int → Int} {P : Int → Int → PR α} {isop : Int → Prop} [DecidablePred isop] {mk : Int → α → α → α} {R : α → Prop} (hP : AllP P R) (hm : ∀ c a b, isop c → R a → R b → R (mk c a b)) : ∀ (k : Nat) (e : α) (tk lv : Int), R e → ∀ a t l, pLp C P isop mk k e tk lv = .inl (a, t, l) → R a
  | 0, e, tk, lv, he, a, t, l, h => by cases h
  | k + 1, e, tk, lv, he, a, t, l, h => by
    simp only [pLp] at h
    by_cases c : isop (C tk)
    · rw [if_pos c] at h
      cases hq : P (tk + 1) lv with
      | inr t' => rw [hq] at h; cases h
      | inl q =>
        rw [hq] at h
        exact pLp_A hP hm k _ _ _ (hm _ _ _ c he (hP _ _ _ _ _ hq)) a t l h
    · rw [if_neg c] at h
      cases h
      exact he
theorem pLV_A {α : Type} {C : Int → Int} {P : Int → Int → PR α} {isop : Int → Prop} [DecidablePred isop] {mk : Int → α → α → α} {R : α → Prop} (hP : AllP P R) (hm : ∀ c a b, isop c → R a → R b → R (mk c a b)) : AllP (pLV C P isop mk) R := by
  intro tk lv a t l h
  unfold pLV at h
  cases hq : P tk lv with
  | inr t' => rw [hq] at h; cases h
  | inl q =>
    rw [hq] at h
    exact pLp_A hP hm 401 _ _ _ (hP _ _ _ _ _ hq) a t l h
def RSc (a : SXC) : Prop := ∀ q ∈ a.2, 0 ≤ q.1 ∧ q.1 ≤ 400
def RTc (a : TXC) : Prop := ∀ p, ∀ q ∈ a.2 p, 0 ≤ q.1 ∧ q.1 ≤ 400
theorem RSc_1 {a : SXC} {s v : Int} (h : a.2 = [(s, v)]) (h0 : 0 ≤ s ∧ s ≤ 400) : RSc a := fun q hq => by
  rw [h] at hq
  have e := List.mem_singleton.mp hq
  rw [e]
  exact h0
theorem RSc_b {c : Int} {a b : SXC} (hc : 100 ≤ c ∧ c ≤ 500) (ha : RSc a) (hb : RSc b) : RSc (bnX c a b) := fun q hq => by
  have hq2 : q ∈ a.2 ++ b.2 ++ [(c - 100, 0)] := hq
  rcases List.mem_append.mp hq2 with z | z
  · rcases List.mem_append.mp z with z | z
    · exact ha q z
    · exact hb q z
  · rw [List.mem_singleton.mp z]
    dsimp only
    omega
theorem pP_A {C V : Int → Int} {io fw lw : Int} {S : Int → Int → PR SXC} (hS : AllP S RSc) : AllP (pP C V io fw lw S) RSc := by
  intro tk lv a t l h
  unfold pP at h
  split at h
  · cases hq : S (tk + 1) lv with
    | inr t' => rw [hq] at h; cases h
    | inl q =>
      rw [hq] at h
      dsimp only at h
      split at h
      · cases h
        exact hS _ _ _ _ _ hq
      · cases h
  · split at h
    · split at h
      · cases h
      · split at h
        · split at h
          · cases h
            exact RSc_1 rfl (by omega)
          · cases h
        · cases h
          split
          · exact RSc_1 rfl (by omega)
          · exact RSc_1 rfl (by omega)
    · cases h
theorem pS_A {C V : Int → Int} {io fw lw : Int} : ∀ n : Nat, AllP (pS C V io fw lw n) RSc
  | 0 => fun tk lv a t l h => by cases h
  | n + 1 => pLV_A (pLV_A (pP_A (pS_A n)) (fun c a b hc ha hb => RSc_b (by unfold isM at hc; omega) ha hb)) (fun c a b hc ha hb => RSc_b (by unfold isA at hc; omega) ha hb)
theorem RTc_j {u : Int} {a b : TXC} (hu : 0 ≤ u ∧ u ≤ 400) (ha : RTc a) (hb : RTc b) (p : Int) : ∀ q ∈ jnX u p a b, 0 ≤ q.1 ∧ q.1 ≤ 400 := fun q hq => by
  unfold jnX at hq
  rcases List.mem_append.mp hq with z | z
  · exact ha _ q z
  · rcases List.mem_cons.mp z with z | z
    · rw [z]
      exact hu
    · exact hb _ q z
theorem pPb_A {C : Int → Int} {S : Int → Int → PR SXC} {T : Int → Int → PR TXC} (hS : AllP S RSc) (hT : AllP T RTc) : AllP (pPb C S T) RTc := by
  intro tk lv a t l h
  unfold pPb at h
  split at h
  · cases hq : T (tk + 1) lv with
    | inr t' => rw [hq] at h; cases h
    | inl q =>
      rw [hq] at h
      dsimp only at h
      split at h
      · cases h
        exact hT _ _ _ _ _ hq
      · cases h
  · cases hq : S tk lv with
    | inr t' => rw [hq] at h; cases h
    | inl q =>
      rw [hq] at h
      dsimp only at h
      split at h
      · next c =>
        cases hr : S (q.2.1 + 1) q.2.2 with
        | inr t' => rw [hr] at h; cases h
        | inl r =>
          rw [hr] at h
          cases h
          intro p e he
          have he2 : e ∈ q.1.2 ++ r.1.2 ++ [(C q.2.1 - 100, 0)] := he
          rcases List.mem_append.mp he2 with z | z
          · rcases List.mem_append.mp z with z | z
            · exact hS _ _ _ _ _ hq e z
            · exact hS _ _ _ _ _ hr e z
          · rw [List.mem_singleton.mp z]
            dsimp only
            omega
      · cases h
theorem pPl_A {C : Int → Int} {S : Int → Int → PR SXC} {T : Int → Int → PR TXC} (hS : AllP S RSc) (hT : AllP T RTc) : AllP (pPl C S T) RTc := by
  intro tk lv a t l h
  unfold pPl at h
  cases hq : pPb C S T (pNo C 401 0 tk).2 lv with
  | inr t' => rw [hq] at h; cases h
  | inl q =>
    rw [hq] at h
    cases h
    have hr := pPb_A (C := C) hS hT _ _ _ _ _ hq
    split
    · intro p e he
      have he2 : e ∈ q.1.2 p ++ [(33, 0)] := he
      rcases List.mem_append.mp he2 with z | z
      · exact hr p e z
      · rw [List.mem_singleton.mp z]
        dsimp only
        omega
    · exact hr
theorem pT_A {C V : Int → Int} {io fw lw : Int} : ∀ n : Nat, AllP (pT C V io fw lw n) RTc
  | 0 => fun tk lv a t l h => by cases h
  | n + 1 => pLV_A (pLV_A (pPl_A (pS_A (n + 1)) (pT_A n)) (fun c a b hc ha hb => RTc_j (by omega) ha hb)) (fun c a b hc ha hb => RTc_j (by omega) ha hb)
def RCc (q : CXC) : Prop := (∀ a, q.2.1 = some a → RSc a) ∧ (∀ a, q.2.2.1 = some a → RSc a) ∧ (∀ x, q.2.2.2.2 = some x → RTc x)
theorem pTail_A {C : Int → Int} {T : Int → Int → PR TXC} (hT : AllP T RTc) {hd : Int} {a b : Option SXC} {tm t l : Int} (h1 : ∀ x, a = some x → RSc x) (h2 : ∀ x, b = some x → RSc x) {q : CXC} {t2 l2 : Int} (h : pTail C T hd a b tm t l = .inl (q, t2, l2)) : RCc q := by
  rcases pTail_inv h with ⟨c, e⟩ | ⟨c, x, t4, l4, e1, e2⟩
  · have z := (Prod.mk.inj e).1
    subst z
    exact ⟨h1, h2, fun x hx => by cases hx⟩
  · have z := (Prod.mk.inj e2).1
    subst z
    exact ⟨h1, h2, fun y hy => by cases hy; exact hT _ _ _ _ _ e1⟩
theorem pTm_A {C V : Int → Int} {T : Int → Int → PR TXC} (hT : AllP T RTc) {hd : Int} {a b : Option SXC} {t l : Int} (h1 : ∀ x, a = some x → RSc x) (h2 : ∀ x, b = some x → RSc x) {q : CXC} {t2 l2 : Int} (h : pTm C V T hd a b t l = .inl (q, t2, l2)) : RCc q := by
  rcases pTm_inv h with ⟨c, c2, e⟩ | ⟨c, e⟩
  · exact pTail_A hT h1 h2 e
  · exact pTail_A hT h1 h2 e
theorem RS_some {S : Int → Int → PR SXC} (hS : AllP S RSc) {tk lv t l : Int} {a : SXC} (h : S tk lv = .inl (a, t, l)) : ∀ x, some a = some x → RSc x := fun x hx => by cases hx; exact hS _ _ _ _ _ h
theorem RS_none : ∀ x : SXC, (none : Option SXC) = some x → RSc x := fun x hx => by cases hx
theorem pOne_A {C V : Int → Int} {io fw lw : Int} : AllP (pOne C V io fw lw) RCc := by
  intro tk lv q t l h
  have hS := pS_A (C := C) (V := V) (io := io) (fw := fw) (lw := lw) 9
  have hT := pT_A (C := C) (V := V) (io := io) (fw := fw) (lw := lw) 9
  unfold pOne at h
  split at h
  · rcases pOrd_inv h with ⟨c, e⟩ | ⟨c, e⟩ | ⟨c, a, t1, l1, e1, e⟩ | ⟨c, e⟩
    · obtain ⟨a, t1, l1, e1, c1, a2, t2, l2, e2, e3⟩ := pTwo_inv e
      exact pTm_A hT (RS_some hS e1) (RS_some hS e2) e3
    · obtain ⟨a, t1, l1, e1, c1, a2, t2, l2, e2, e3⟩ := pTwo_inv e
      exact pTm_A hT (RS_some hS e1) (RS_some hS e2) e3
    · exact pTm_A hT (RS_some hS e1) RS_none e
    · exact pTm_A hT RS_none RS_none e
  · rcases pLaw_inv h with ⟨c, a, t1, l1, e1, e⟩ | ⟨c, e⟩
    · exact pTail_A hT (RS_some hS e1) RS_none e
    · exact pTail_A hT RS_none RS_none e
theorem pMo_A {C : Int → Int} {P : Int → Int → PR CXC} (hP : AllP P RCc) : ∀ (k : Nat) (n : Int) (cs0 : List CXC) (tk lv : Int) (cs : List CXC) (t l : Int), (∀ q ∈ cs0, RCc q) → pMo C P k n cs0 tk lv = .inl (cs, t, l) → ∀ q ∈ cs, RCc q
  | 0, n, cs0, tk, lv, cs, t, l, h0, h => by cases h
  | k + 1, n, cs0, tk, lv, cs, t, l, h0, h => by
    simp only [pMo] at h
    split at h
    · split at h
      · cases h
      · cases hq : P (tk + 1) lv with
        | inr t' => rw [hq] at h; cases h
        | inl q =>
          rw [hq] at h
          refine pMo_A hP k _ _ _ _ cs t l (fun q' hq' => ?_) h
          rcases List.mem_append.mp hq' with z | z
          · exact h0 q' z
          · rw [List.mem_singleton.mp z]
            exact hP _ _ _ _ _ hq
    · cases h
      exact h0
theorem pRd_A {C V : Int → Int} {N io fw lw : Int} {cs : List CXC} {t l : Int} (h : pRd C V N io fw lw = .inl (cs, t, l)) : ∀ q ∈ cs, RCc q := by
  unfold pRd at h
  cases hq : pOne C V io fw lw 0 0 with
  | inr t' => rw [hq] at h; cases h
  | inl q =>
    rw [hq] at h
    dsimp only at h
    cases hr : pMo C (pOne C V io fw lw) 13 1 [q.1] q.2.1 q.2.2 with
    | inr t' => rw [hr] at h; cases h
    | inl r =>
      rw [hr] at h
      dsimp only at h
      split at h
      · cases h
      · cases h
        exact pMo_A pOne_A 13 1 [q.1] _ _ _ _ _ (fun q' hq' => by rw [List.mem_singleton.mp hq']; exact pOne_A _ _ _ _ _ hq) hr
theorem lyC_A {z : Int} {q : CXC} (h : RCc q) : ∀ e ∈ lyC z q, 0 ≤ e.1 ∧ e.1 ≤ 400 := by
  obtain ⟨h1, h2, h3⟩ := h
  have hs : ∀ (a : Option SXC), (∀ x, a = some x → RSc x) → ∀ e ∈ opS a, 0 ≤ e.1 ∧ e.1 ≤ 400 := fun a ha e he => by
    cases a with
    | none => cases he
    | some x =>
      have he2 : e ∈ x.2 ++ [(46, 0)] := he
      rcases List.mem_append.mp he2 with z | z
      · exact ha x rfl e z
      · rw [List.mem_singleton.mp z]
        dsimp only
        omega
  intro e he
  unfold lyC at he
  rcases List.mem_append.mp he with z1 | z1
  · rcases List.mem_append.mp z1 with z2 | z2
    · exact hs _ h1 e z2
    · exact hs _ h2 e z2
  · cases hx : q.2.2.2.2 with
    | none => rw [hx] at z1; cases z1
    | some x =>
      rw [hx] at z1
      have he2 : e ∈ x.2 (z + (opS q.2.1).length + (opS q.2.2.1).length) ++ [(46, 0)] := z1
      rcases List.mem_append.mp he2 with z2 | z2
      · exact h3 x hx _ e z2
      · rw [List.mem_singleton.mp z2]
        dsimp only
        omega
theorem TxR_st {hb : Int} {kn ff sc ts mm st vl : Int → Int} : ∀ (cs : List CXC) (c z ze : Int), TxR hb kn ff sc ts mm st vl c z cs ze → (∀ q ∈ cs, RCc q) → ∀ j, z ≤ j → j < ze → 0 ≤ st j ∧ st j ≤ 400
  | [], c, z, ze, h, hA, j, j0, j1 => by
    have h2 : z = ze := h
    omega
  | q :: qs, c, z, ze, h, hA, j, j0, j1 => by
    obtain ⟨h1, h2⟩ := h
    by_cases d : j < z + ((lyC z q).length : Int)
    · have hi : (j - z).toNat < (lyC z q).length := by omega
      have hat := h1.2.2.2.2.2 (j - z).toNat _ (List.getElem?_eq_getElem hi)
      rw [show z + (((j - z).toNat : Nat) : Int) = j by omega] at hat
      rw [hat.1]
      exact lyC_A (hA q List.mem_cons_self) _ (List.getElem_mem hi)
    · exact TxR_st qs _ _ _ h2 (fun q' hq' => hA q' (List.mem_cons_of_mem _ hq')) j (by omega) j1
/-- a law's text keeps its bounds -/
theorem TdB_of {C V : Int → Int} {N t' l : Int} {cs : List CXC} {t : TD} (hp : pRd C V N 0 9 16 = .inl (cs, t', l)) (hh : ∀ q ∈ cs, CXh 0 q) (hX : TxR 256 t.2.2.1 t.2.2.2.1 t.2.2.2.2.1 t.2.2.2.2.2.1 t.2.2.2.2.2.2.1 t.2.2.2.2.2.2.2.1 t.2.2.2.2.2.2.2.2 0 0 cs t.2.1) (hl : t.1 = (cs.length : Int)) (h12 : cs.length ≤ 12) (hz : t.2.1 ≤ 400) : TdB t := by
  obtain ⟨z0, zi⟩ := TxR_at cs 0 0 _ hX
  refine ⟨by omega, by omega, fun j j0 j1 => TxR_st cs 0 0 _ hX (pRd_A hp) j j0 j1, fun c c0 c1 => ?_⟩
  obtain ⟨q, hq⟩ : ∃ q, cs[c.toNat]? = some q := ⟨_, List.getElem?_eq_getElem (by omega)⟩
  obtain ⟨z, -, ⟨k1, -⟩, -⟩ := zi c.toNat q hq
  rw [show (0 : Int) + ((c.toNat : Nat) : Int) = c by omega] at k1
  have h0 := hh q (List.mem_of_getElem? hq)
  unfold CXh at h0
  rw [if_neg (by decide)] at h0
  rw [k1]
  rcases h0.1 with ⟨e | e | e, -⟩ | ⟨e, -⟩ <;> rw [e] <;> decide
/-- a clause of orders on the stack -/
def EvO (st vl wd : Int → Int) (sz p : Int) (o : Option Int) : Prop := (p = -1 ∧ o = some 0) ∨ (0 ≤ p ∧ p ≤ sz ∧ ∃ v b, (∀ sk, mach st vl wd (sz - p).toNat p 0 sk p = some (v, b)) ∧ rgo v ∧ ((b = 0 ∧ o = some v) ∨ (b = 1 ∧ o = none)))
theorem EvO_s {st vl wd : Int → Int} {sz p n : Int} {a : SXC} {wv : Int → Int → Int} (h : MS st vl wd sz (a.1 wv) a.2 n) (hn : n ≤ 50) (p0 : 0 ≤ p) (hA : At st vl p (opS (some a))) (hp : p + ((opS (some a)).length : Int) ≤ sz) : EvO st vl wd sz p (a.1 wv) := by
  refine Or.inr ⟨p0, by omega, _, _, fun sk => MS_run h hn hA hp sk, ?_, ?_⟩
  · cases ho : a.1 wv with
    | none => show rgo 0; omega
    | some v => exact h.1 v ho
  · cases ho : a.1 wv with
    | none => exact Or.inr ⟨rfl, rfl⟩
    | some v => exact Or.inl ⟨rfl, rfl⟩
theorem ord_ev {kn ff sc tz mm st vl wd : Int → Int} {sz c : Int} {wv : Int → Int → Int} {cs : List CXC} {q : CXC} (hX : TxR 260 kn ff sc tz mm st vl 0 0 cs sz) (c0 : 0 ≤ c) (hq : cs[c.toNat]? = some q) (hk : CXk st vl wd sz wv q) (hh : CXh 1 q) :
    ((tz c = -1 ∧ tstV q wv = some 1) ∨ (0 ≤ tz c ∧ tz c ≤ sz ∧ ∃ v b, (∀ sk, mach st vl wd (sz - tz c).toNat (tz c) 0 sk (tz c) = some (v, b)) ∧ (0 ≤ v ∧ v ≤ 1) ∧ (v = 0 ↔ ¬ tstV q wv = some 1))) ∧ EvO st vl wd sz (ff c) (su1 q wv) ∧ EvO st vl wd sz (sc c) (su2 q wv) ∧ ((q.1 = 21 ∧ kn c = 0) ∨ (q.1 = 23 ∧ kn c = 1) ∨ (q.1 = 24 ∧ kn c = 2) ∨ (q.1 = 26 ∧ kn c = 3)) ∧ mm c = q.2.2.2.1 := by
  obtain ⟨z, z0, ⟨k1, k2, k3, k4, k5, k6⟩, k7⟩ := (TxR_at cs 0 0 sz hX).2 c.toNat q hq
  rw [show (0 : Int) + ((c.toNat : Nat) : Int) = c by omega] at k1 k2 k3 k4 k5
  obtain ⟨m1, m2, m3⟩ := hk
  refine ⟨?_, ?_, ?_, ?_, k5⟩
  · cases ht : q.2.2.2.2 with
    | none =>
      left
      refine ⟨?_, ?_⟩
      · rw [k4]; unfold teC; rw [ht]; rfl
      · unfold tstV; rw [ht]
    | some x =>
      right
      obtain ⟨n, n1, n2, hM⟩ := m3 x ht
      obtain ⟨hA, hp⟩ := lyC_t k6 k7 ht
      have e : tz c = z + ((opS q.2.1).length : Int) + ((opS q.2.2.1).length : Int) := by rw [k4]; unfold teC; rw [ht]; rfl
      have hv : tstV q wv = x.1 wv := by unfold tstV; rw [ht]
      rw [e, hv]
      refine ⟨by omega, by omega, _, _, fun sk => MT_run hM n2 (by omega) hA hp sk, ?_, ?_⟩
      · cases ho : x.1 wv with
        | none => show 0 ≤ (0 : Int) ∧ (0 : Int) ≤ 1; omega
        | some v => have := hM.1 v ho; show 0 ≤ v ∧ v ≤ 1; omega
      · cases ho : x.1 wv with
        | none => exact ⟨fun _ w => (by cases w), fun _ => rfl⟩
        | some v =>
          have := hM.1 v ho
          show v = 0 ↔ ¬ some v = some 1
          constructor
          · intro w1 w2
            have := Option.some.inj w2
            omega
          · intro w
            by_cases d : v = 1
            · exact absurd (by rw [d]) w
            · omega
  · cases ht : q.2.1 with
    | none =>
      left
      refine ⟨?_, ?_⟩
      · rw [k2]; unfold fiC; rw [ht]; rfl
      · unfold su1; rw [ht]
    | some a =>
      obtain ⟨n, n1, n2, hM⟩ := m1 a ht
      obtain ⟨hA, hp⟩ := lyC_s1 k6 k7 ht
      have e : ff c = z := by rw [k2]; unfold fiC; rw [ht]; rfl
      have hv : su1 q wv = a.1 wv := by unfold su1; rw [ht]
      rw [e, hv]
      exact EvO_s hM n2 z0 hA hp
  · cases ht : q.2.2.1 with
    | none =>
      left
      refine ⟨?_, ?_⟩
      · rw [k3]; unfold seC; rw [ht]; rfl
      · unfold su2; rw [ht]
    | some a =>
      obtain ⟨n, n1, n2, hM⟩ := m2 a ht
      obtain ⟨hA, hp⟩ := lyC_s2 k6 k7 ht
      have e : sc c = z + ((opS q.2.1).length : Int) := by rw [k3]; unfold seC; rw [ht]; rfl
      have hv : su2 q wv = a.1 wv := by unfold su2; rw [ht]
      rw [e, hv]
      exact EvO_s hM n2 (by omega) hA hp
  · have h0 := hh
    unfold CXh at h0
    rw [if_pos rfl] at h0
    rw [k1]
    rcases h0.1 with ⟨e | e, -⟩ | ⟨e, -⟩ | ⟨e, -⟩
    · exact Or.inl ⟨e, by rw [e]; decide⟩
    · exact Or.inr (Or.inr (Or.inl ⟨e, by rw [e]; decide⟩))
    · exact Or.inr (Or.inl ⟨e, by rw [e]; decide⟩)
    · exact Or.inr (Or.inr (Or.inr ⟨e, by rw [e]; decide⟩))
theorem onO_yes {q : CXC} {S T : OS} {v1 v2 : Int} (h : tstV q (ow S.1 S.2.2.2.1 S.2.2.2.2) = some 1) (h1 : su1 q (ow S.1 S.2.2.2.1 S.2.2.2.2) = some v1) (h2 : su2 q (ow S.1 S.2.2.2.1 S.2.2.2.2) = some v2) (hT : obK q.1 v1 v2 S = some T) : onO q S = some (T.1, T.2.1, T.2.2.1, T.2.2.2.1 + 1, T.2.2.2.2) := by
  unfold onO
  rw [if_pos h, h1, h2]
  dsimp only
  rw [hT]
theorem onO_fails {q : CXC} {S : OS} {v1 v2 : Int} (h : tstV q (ow S.1 S.2.2.2.1 S.2.2.2.2) = some 1) (h1 : su1 q (ow S.1 S.2.2.2.1 S.2.2.2.2) = some v1) (h2 : su2 q (ow S.1 S.2.2.2.1 S.2.2.2.2) = some v2) (hT : obK q.1 v1 v2 S = none) : onO q S = none := by
  unfold onO
  rw [if_pos h, h1, h2]
  dsimp only
  rw [hT]
