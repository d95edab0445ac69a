/-! PURE: where clauses end -/
def GC {α : Type} (N : Int) (P : Int → Int → PR α) : Prop := ∀ tk lv, 0 ≤ tk → tk ≤ N → 0 ≤ lv → lv ≤ 50 → (∀ a t l, P tk lv = .inl (a, t, l) → tk < t ∧ t ≤ N ∧ lv ≤ l ∧ l ≤ 50) ∧ (∀ t, P tk lv = .inr t → 0 ≤ t ∧ t ≤ N)
theorem pTail_R {C : Int → Int} {N : Int} {T : Int → Int → PR TXC} (hN : C N = 0) (hT : GP N T) {hd : Int} {a b : Option SXC} {tm tk lv : Int} (h1 : 1 ≤ tk) (h2 : tk ≤ N) (h3 : 0 ≤ lv) (h4 : lv ≤ 50) : (∀ a_ t l, pTail C T hd a b tm tk lv = .inl (a_, t, l) → tk ≤ t ∧ t ≤ N ∧ lv ≤ l ∧ l ≤ 50) ∧ (∀ t, pTail C T hd a b tm tk lv = .inr t → 0 ≤ t ∧ t ≤ N) := by
  unfold pTail
  by_cases c : C tk = 5
  · have hne : tk ≠ N := fun e => by rw [e, hN] at c; omega
    rw [if_pos c]
    cases hP : T (tk + 1) lv with
    | inr t =>
      have := (hT (tk + 1) lv (by omega) (by omega) h3 h4).2 t hP
      exact ⟨fun a t l h => (by cases h), fun t' h => by cases h; omega⟩
    | inl q =>
      obtain ⟨a, t, l⟩ := q
      have hb := (hT (tk + 1) lv (by omega) (by omega) h3 h4).1 a t l hP
      exact ⟨fun a t l h => (by cases h; simp only; omega), fun t h => by cases h⟩
  · rw [if_neg c]
    exact ⟨fun a t l h => (by cases h; omega), fun t h => by cases h⟩
theorem pTm_R {C V : Int → Int} {N : Int} {T : Int → Int → PR TXC} (hN : C N = 0) (hT : GP N T) {hd : Int} {a b : Option SXC} {tk lv : Int} (h1 : 1 ≤ tk) (h2 : tk ≤ N) (h3 : 0 ≤ lv) (h4 : lv ≤ 50) : (∀ a_ t l, pTm C V T hd a b tk lv = .inl (a_, t, l) → tk ≤ t ∧ t ≤ N ∧ lv ≤ l ∧ l ≤ 50) ∧ (∀ t, pTm C V T hd a b tk lv = .inr t → 0 ≤ t ∧ t ≤ N) := by
  unfold pTm
  by_cases c : C tk = 27
  · have hne : tk ≠ N := fun e => by rw [e, hN] at c; omega
    rw [if_pos c]
    by_cases c2 : C (tk + 1) = 50 ∧ 1 ≤ V (tk + 1) ∧ V (tk + 1) ≤ 20
    · have hne2 : tk + 1 ≠ N := fun e => by rw [e, hN] at c2; omega
      rw [if_pos c2]
      have := pTail_R hN hT (hd := hd) (a := a) (b := b) (tm := V (tk + 1)) (tk := tk + 2) (lv := lv) (by omega) (by omega) h3 h4
      exact ⟨fun a t l h => by have := this.1 a t l h; omega, this.2⟩
    · rw [if_neg c2]
      exact ⟨fun a t l h => (by cases h), fun t h => by cases h; omega⟩
  · rw [if_neg c]
    exact pTail_R hN hT h1 h2 h3 h4
theorem pLaw_R {C : Int → Int} {N : Int} {S : Int → Int → PR SXC} {T : Int → Int → PR TXC} (hN : C N = 0) (hS : GP N S) (hT : GP N T) : GC N (pLaw C S T) := by
  intro tk lv h1 h2 h3 h4
  unfold pLaw
  by_cases c : C tk = 1 ∨ C tk = 2 ∨ C tk = 3
  · have hne : tk ≠ N := fun e => by rw [e, hN] at c; omega
    rw [if_pos c]
    cases hP : S (tk + 1) lv with
    | inr t =>
      have := (hS (tk + 1) lv (by omega) (by omega) h3 h4).2 t hP
      exact ⟨fun a t l h => (by cases h), fun t' h => by cases h; omega⟩
    | inl q =>
      obtain ⟨a, t, l⟩ := q
      have hb := (hS (tk + 1) lv (by omega) (by omega) h3 h4).1 a t l hP
      have := pTail_R hN hT (hd := C tk) (a := some a) (b := none) (tm := 1) (tk := t) (lv := l) (by omega) (by omega) (by omega) (by omega)
      exact ⟨fun a t l h => by have := this.1 a t l h; omega, this.2⟩
  · rw [if_neg c]
    by_cases c2 : C tk = 4
    · have hne : tk ≠ N := fun e => by rw [e, hN] at c2; omega
      rw [if_pos c2]
      have := pTail_R hN hT (hd := 4) (a := none) (b := none) (tm := 1) (tk := tk + 1) (lv := lv) (by omega) (by omega) (by omega) (by omega)
      exact ⟨fun a t l h => by have := this.1 a t l h; omega, this.2⟩
    · rw [if_neg c2]
      exact ⟨fun a t l h => (by cases h), fun t h => by cases h; omega⟩
theorem pTwo_R {C V : Int → Int} {N : Int} {S : Int → Int → PR SXC} {T : Int → Int → PR TXC} (hN : C N = 0) (hS : GP N S) (hT : GP N T) {hd mid tk lv : Int} (hm : mid ≠ 0) (h1 : 0 ≤ tk) (h2 : tk < N) (h3 : 0 ≤ lv) (h4 : lv ≤ 50) : (∀ a t l, pTwo C V S T hd mid tk lv = .inl (a, t, l) → tk < t ∧ t ≤ N ∧ lv ≤ l ∧ l ≤ 50) ∧ (∀ t, pTwo C V S T hd mid tk lv = .inr t → 0 ≤ t ∧ t ≤ N) := by
  unfold pTwo
  cases hP : S (tk + 1) lv with
  | inr t =>
    have := (hS (tk + 1) lv (by omega) (by omega) h3 h4).2 t hP
    exact ⟨fun a t l h => (by cases h), fun t' h => by cases h; omega⟩
  | inl q =>
    obtain ⟨a, t, l⟩ := q
    have hb := (hS (tk + 1) lv (by omega) (by omega) h3 h4).1 a t l hP
    simp only
    by_cases c : C t = mid
    · have hne : t ≠ N := fun e => by rw [e, hN] at c; exact hm c.symm
      rw [if_pos c]
      cases hP2 : S (t + 1) l with
      | inr t2 =>
        have := (hS (t + 1) l (by omega) (by omega) (by omega) (by omega)).2 t2 hP2
        exact ⟨fun a t l h => (by cases h), fun t' h => by cases h; omega⟩
      | inl q2 =>
        obtain ⟨a2, t2, l2⟩ := q2
        have hb2 := (hS (t + 1) l (by omega) (by omega) (by omega) (by omega)).1 a2 t2 l2 hP2
        have := pTm_R (V := V) hN hT (hd := hd) (a := some a) (b := some a2) (tk := t2) (lv := l2) (by omega) (by omega) (by omega) (by omega)
        exact ⟨fun a t l h => by have := this.1 a t l h; omega, this.2⟩
    · rw [if_neg c]
      exact ⟨fun a t l h => (by cases h), fun t h => by cases h; omega⟩
theorem pOrd_R {C V : Int → Int} {N : Int} {S : Int → Int → PR SXC} {T : Int → Int → PR TXC} (hN : C N = 0) (hS : GP N S) (hT : GP N T) : GC N (pOrd C V S T) := by
  intro tk lv h1 h2 h3 h4
  unfold pOrd
  by_cases c1 : C tk = 21
  · have hne : tk ≠ N := fun e => by rw [e, hN] at c1; omega
    rw [if_pos c1]
    exact pTwo_R hN hS hT (by decide) h1 (by omega) h3 h4
  rw [if_neg c1]
  by_cases c2 : C tk = 24
  · have hne : tk ≠ N := fun e => by rw [e, hN] at c2; omega
    rw [if_pos c2]
    exact pTwo_R hN hS hT (by decide) h1 (by omega) h3 h4
  rw [if_neg c2]
  by_cases c3 : C tk = 23
  · have hne : tk ≠ N := fun e => by rw [e, hN] at c3; omega
    rw [if_pos c3]
    cases hP : S (tk + 1) lv with
    | inr t =>
      have := (hS (tk + 1) lv (by omega) (by omega) h3 h4).2 t hP
      exact ⟨fun a t l h => (by cases h), fun t' h => by cases h; omega⟩
    | inl q =>
      obtain ⟨a, t, l⟩ := q
      have hb := (hS (tk + 1) lv (by omega) (by omega) h3 h4).1 a t l hP
      have := pTm_R (V := V) hN hT (hd := 23) (a := some a) (b := none) (tk := t) (lv := l) (by omega) (by omega) (by omega) (by omega)
      exact ⟨fun a t l h => by have := this.1 a t l h; omega, this.2⟩
  rw [if_neg c3]
  by_cases c4 : C tk = 26
  · have hne : tk ≠ N := fun e => by rw [e, hN] at c4; omega
    rw [if_pos c4]
    have := pTm_R (V := V) hN hT (hd := 26) (a := none) (b := none) (tk := tk + 1) (lv := lv) (by omega) (by omega) (by omega) (by omega)
    exact ⟨fun a t l h => by have := this.1 a t l h; omega, this.2⟩
  · rw [if_neg c4]
    exact ⟨fun a t l h => (by cases h), fun t h => by cases h; omega⟩
theorem pOne_R {C V : Int → Int} {io fw lw N : Int} (hN : C N = 0) (hf : 0 < fw) : GC N (pOne C V io fw lw) := by
  intro tk lv
  unfold pOne
  by_cases c : io = 1
  · rw [if_pos c]
    exact pOrd_R hN (pS_R hN hf 9) (pT_R hN hf 9) tk lv
  · rw [if_neg c]
    exact pLaw_R hN (pS_R hN hf 9) (pT_R hN hf 9) tk lv
