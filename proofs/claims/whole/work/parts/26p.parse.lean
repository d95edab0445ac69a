/-! PURE: both languages read: what a text tells (its sums and tests, and the steps of a stack), where it ends, or where its fault is -/
abbrev SXC : Type := ((Int → Int → Int) → Option Int) × List (Int × Int)
abbrev TXC : Type := ((Int → Int → Int) → Option Int) × (Int → List (Int × Int))
abbrev CXC : Type := Int × Option SXC × Option SXC × Int × Option TXC
abbrev PR (α : Type) : Type := Sum (α × Int × Int) Int
def bdO (r : Int) : Option Int := if 1000000000 < r ∨ r < -1000000000 then none else some r
def cmb (op x y : Int) : Option Int := if op = 143 then bdO (x + y) else if op = 145 then bdO (x - y) else if op = 142 then bdO (x * y) else if y = 0 then none else if op = 147 then bdO (x.tdiv y) else bdO (x.tmod y)
def nmX (v : Int) : SXC := (fun _ => some v, [(110, v)])
def wdX (c : Int) : SXC := (fun wv => some (wv c 0), [(119, c - 9)])
def plX (c k : Int) : SXC := (fun wv => some (wv c k), [(119, (if c = 14 then 12 else 32) + k)])
def bnX (op : Int) (a b : SXC) : SXC := (fun wv => (a.1 wv).bind (fun x => (b.1 wv).bind (fun y => cmb op x y)), a.2 ++ b.2 ++ [(op - 100, 0)])
def cpX (op x y : Int) : Int := if op = 160 then (if x < y then 1 else 0) else if op = 162 then (if y < x then 1 else 0) else (if x = y then 1 else 0)
def cmX (op : Int) (a b : SXC) : TXC := (fun wv => (a.1 wv).bind (fun x => (b.1 wv).bind (fun y => some (cpX op x y))), fun _ => a.2 ++ b.2 ++ [(op - 100, 0)])
def ntX (a : TXC) : TXC := (fun wv => (a.1 wv).bind (fun x => some (1 - x)), fun p => a.2 p ++ [(33, 0)])
def jnX (u p : Int) (a b : TXC) : List (Int × Int) := a.2 p ++ (u, p + (a.2 p).length + 1 + (b.2 (p + (a.2 p).length + 1)).length) :: b.2 (p + (a.2 p).length + 1)
def orX (a b : TXC) : TXC := (fun wv => (a.1 wv).bind (fun x => if x = 1 then some 1 else b.1 wv), fun p => jnX 124 p a b)
def anX (a b : TXC) : TXC := (fun wv => (a.1 wv).bind (fun x => if x = 0 then some 0 else b.1 wv), fun p => jnX 38 p a b)
def pP (C V : Int → Int) (io fw lw : Int) (S : Int → Int → PR SXC) (tk lv : Int) : PR SXC :=
  if C tk = 191 then (match S (tk + 1) lv with
    | .inr t => .inr t
    | .inl q => if C q.2.1 = 193 then .inl (q.1, q.2.1 + 1, q.2.2) else .inr q.2.1)
  else if (C tk = 50 ∧ V tk ≤ 1000) ∨ (fw ≤ C tk ∧ C tk ≤ lw) then
    (if lv = 50 then .inr tk
    else if io = 1 ∧ (C tk = 14 ∨ C tk = 20) then (if C (tk + 1) = 50 ∧ 0 ≤ V (tk + 1) ∧ V (tk + 1) ≤ 19 then .inl (plX (C tk) (V (tk + 1)), tk + 2, lv + 1) else .inr (tk + 1))
    else .inl ((if C tk = 50 then nmX (V tk) else wdX (C tk)), tk + 1, lv + 1))
  else .inr tk
/-- of several, bound from the left -/
def pLp {α : Type} (C : Int → Int) (P : Int → Int → PR α) (isop : Int → Prop) [DecidablePred isop] (mk : Int → α → α → α) : Nat → α → Int → Int → PR α
  | 0, _, tk, _ => .inr tk
  | k + 1, e, tk, lv => if isop (C tk) then (match P (tk + 1) lv with
    | .inr t => .inr t
    | .inl q => pLp C P isop mk k (mk (C tk) e q.1) q.2.1 q.2.2) else .inl (e, tk, lv)
def pLV {α : Type} (C : Int → Int) (P : Int → Int → PR α) (isop : Int → Prop) [DecidablePred isop] (mk : Int → α → α → α) (tk lv : Int) : PR α := match P tk lv with
  | .inr t => .inr t
  | .inl q => pLp C P isop mk 401 q.1 q.2.1 q.2.2
abbrev isM (c : Int) : Prop := c = 142 ∨ c = 147 ∨ c = 137
abbrev isA (c : Int) : Prop := c = 143 ∨ c = 145
abbrev isAnd (c : Int) : Prop := c = 7
abbrev isOr (c : Int) : Prop := c = 6
def pS (C V : Int → Int) (io fw lw : Int) : Nat → Int → Int → PR SXC
  | 0 => fun tk _ => .inr (tk - 1)
  | m + 1 => pLV C (pLV C (pP C V io fw lw (pS C V io fw lw m)) isM bnX) isA bnX
def pNo (C : Int → Int) : Nat → Int → Int → Int × Int
  | 0, par, tk => (par, tk)
  | k + 1, par, tk => if C tk = 8 then pNo C k (1 - par) (tk + 1) else (par, tk)
def pPb (C : Int → Int) (S : Int → Int → PR SXC) (T : Int → Int → PR TXC) (tk lv : Int) : PR TXC :=
  if C tk = 140 then (match T (tk + 1) lv with
    | .inr t => .inr t
    | .inl q => if C q.2.1 = 141 then .inl (q.1, q.2.1 + 1, q.2.2) else .inr q.2.1)
  else (match S tk lv with
    | .inr t => .inr t
    | .inl q => if C q.2.1 = 160 ∨ C q.2.1 = 162 ∨ C q.2.1 = 161 then (match S (q.2.1 + 1) q.2.2 with
      | .inr t => .inr t
      | .inl r => .inl (cmX (C q.2.1) q.1 r.1, r.2.1, r.2.2)) else .inr q.2.1)
def pPl (C : Int → Int) (S : Int → Int → PR SXC) (T : Int → Int → PR TXC) (tk lv : Int) : PR TXC :=
  match pPb C S T (pNo C 401 0 tk).2 lv with
  | .inr t => .inr t
  | .inl q => .inl ((if (pNo C 401 0 tk).1 = 1 then ntX q.1 else q.1), q.2.1, q.2.2)
def pT (C V : Int → Int) (io fw lw : Int) : Nat → Int → Int → PR TXC
  | 0 => fun tk _ => .inr (tk - 1)
  | m + 1 => pLV C (pLV C (pPl C (pS C V io fw lw (m + 1)) (pT C V io fw lw m)) isAnd (fun _ => anX)) isOr (fun _ => orX)
def pTail (C : Int → Int) (T : Int → Int → PR TXC) (hd : Int) (a b : Option SXC) (tm t l : Int) : PR CXC :=
  if C t = 5 then (match T (t + 1) l with
    | .inr t => .inr t
    | .inl q => .inl ((hd, a, b, tm, some q.1), q.2.1, q.2.2)) else .inl ((hd, a, b, tm, none), t, l)
def pLaw (C : Int → Int) (S : Int → Int → PR SXC) (T : Int → Int → PR TXC) (tk lv : Int) : PR CXC :=
  if C tk = 1 ∨ C tk = 2 ∨ C tk = 3 then (match S (tk + 1) lv with
    | .inr t => .inr t
    | .inl q => pTail C T (C tk) (some q.1) none 1 q.2.1 q.2.2)
  else if C tk = 4 then pTail C T 4 none none 1 (tk + 1) lv else .inr tk
def pTm (C V : Int → Int) (T : Int → Int → PR TXC) (hd : Int) (a b : Option SXC) (t l : Int) : PR CXC :=
  if C t = 27 then (if C (t + 1) = 50 ∧ 1 ≤ V (t + 1) ∧ V (t + 1) ≤ 20 then pTail C T hd a b (V (t + 1)) (t + 2) l else .inr (t + 1)) else pTail C T hd a b 1 t l
def pTwo (C V : Int → Int) (S : Int → Int → PR SXC) (T : Int → Int → PR TXC) (hd mid tk lv : Int) : PR CXC := match S (tk + 1) lv with
  | .inr t => .inr t
  | .inl q => if C q.2.1 = mid then (match S (q.2.1 + 1) q.2.2 with
    | .inr t => .inr t
    | .inl r => pTm C V T hd (some q.1) (some r.1) r.2.1 r.2.2) else .inr q.2.1
def pOrd (C V : Int → Int) (S : Int → Int → PR SXC) (T : Int → Int → PR TXC) (tk lv : Int) : PR CXC :=
  if C tk = 21 then pTwo C V S T 21 22 tk lv
  else if C tk = 24 then pTwo C V S T 24 25 tk lv
  else if C tk = 23 then (match S (tk + 1) lv with
    | .inr t => .inr t
    | .inl q => pTm C V T 23 (some q.1) none q.2.1 q.2.2)
  else if C tk = 26 then pTm C V T 26 none none (tk + 1) lv else .inr tk
def pOne (C V : Int → Int) (io fw lw : Int) (tk lv : Int) : PR CXC := if io = 1 then pOrd C V (pS C V io fw lw 9) (pT C V io fw lw 9) tk lv else pLaw C (pS C V io fw lw 9) (pT C V io fw lw 9) tk lv
/-- the clauses behind the first n of them -/
def pMo (C : Int → Int) (P : Int → Int → PR CXC) : Nat → Int → List CXC → Int → Int → PR (List CXC)
  | 0, _, _, tk, _ => .inr tk
  | k + 1, n, cs, tk, lv => if C tk = 159 then (if n = 12 then .inr (tk + 1) else (match P (tk + 1) lv with
    | .inr t => .inr t
    | .inl q => pMo C P k (n + 1) (cs ++ [q.1]) q.2.1 q.2.2)) else .inl (cs, tk, lv)
def pRd (C V : Int → Int) (N io fw lw : Int) : PR (List CXC) := match pOne C V io fw lw 0 0 with
  | .inr t => .inr t
  | .inl q => match pMo C (pOne C V io fw lw) 13 1 [q.1] q.2.1 q.2.2 with
    | .inr t => .inr t
    | .inl r => if r.2.1 < N then .inr r.2.1 else .inl (r.1, r.2.1, r.2.2)
/-- where they end -/
def GP {α : Type} (N : Int) (P : Int → Int → PR α) : Prop := ∀ tk lv, 1 ≤ tk → tk ≤ N → 0 ≤ lv → lv ≤ 50 → (∀ a t l, P tk lv = .inl (a, t, l) → tk < t ∧ t ≤ N ∧ lv ≤ l ∧ l ≤ 50) ∧ (∀ t, P tk lv = .inr t → tk - 1 ≤ t ∧ t ≤ N)
theorem pLp_R {α : Type} {C : Int → Int} {P : Int → Int → PR α} {isop : Int → Prop} [DecidablePred isop] {mk : Int → α → α → α} {N : Int} (hN : C N = 0) (h0 : ¬ isop 0) (hG : GP N P) : ∀ (k : Nat) (e : α) (tk lv : Int), 1 ≤ tk → tk ≤ N → 0 ≤ lv → lv ≤ 50 → (∀ a t l, pLp C P isop mk k e tk lv = .inl (a, t, l) → tk ≤ t ∧ t ≤ N ∧ lv ≤ l ∧ l ≤ 50) ∧ (∀ t, pLp C P isop mk k e tk lv = .inr t → tk ≤ t ∧ t ≤ N)
  | 0, e, tk, lv, h1, h2, h3, h4 => ⟨fun a t l h => (by cases h), fun t h => by cases h; omega⟩
  | k + 1, e, tk, lv, h1, h2, h3, h4 => by
    unfold pLp
    by_cases c : isop (C tk)
    · have hne : tk ≠ N := fun e => h0 (by rw [e, hN] at c; exact c)
      rw [if_pos c]
      cases hP : P (tk + 1) lv with
      | inr t =>
        have := (hG (tk + 1) lv (by omega) (by omega) h3 h4).2 t hP
        exact ⟨fun a t l h => (by cases h), fun t' h => by cases h; omega⟩
      | inl q =>
        obtain ⟨a, t, l⟩ := q
        have hb := (hG (tk + 1) lv (by omega) (by omega) h3 h4).1 a t l hP
        have ih := pLp_R (isop := isop) (mk := mk) hN h0 hG k (mk (C tk) e a) t l (by omega) (by omega) (by omega) (by omega)
        refine ⟨fun a' t' l' h => ?_, fun t' h => ?_⟩
        · have := ih.1 a' t' l' h
          omega
        · have := ih.2 t' h
          omega
    · rw [if_neg c]
      exact ⟨fun a t l h => (by cases h; omega), fun t h => by cases h⟩
theorem pLV_R {α : Type} {C : Int → Int} {P : Int → Int → PR α} {isop : Int → Prop} [DecidablePred isop] {mk : Int → α → α → α} {N : Int} (hN : C N = 0) (h0 : ¬ isop 0) (hG : GP N P) : GP N (pLV C P isop mk) := by
  intro tk lv h1 h2 h3 h4
  unfold pLV
  cases hP : P tk lv with
  | inr t =>
    have := (hG tk lv h1 h2 h3 h4).2 t hP
    exact ⟨fun a t l h => (by cases h), fun t' h => by cases h; omega⟩
  | inl q =>
    obtain ⟨a, t, l⟩ := q
    have hb := (hG tk lv h1 h2 h3 h4).1 a t l hP
    have ih := pLp_R (isop := isop) (mk := mk) hN h0 hG 401 a t l (by omega) (by omega) (by omega) (by omega)
    refine ⟨fun a' t' l' h => ?_, fun t' h => ?_⟩
    · have := ih.1 a' t' l' h
      omega
    · have := ih.2 t' h
      omega
theorem pP_R {C V : Int → Int} {io fw lw N : Int} {S : Int → Int → PR SXC} (hN : C N = 0) (hf : 0 < fw) (hG : GP N S) : GP N (pP C V io fw lw S) := by
  intro tk lv h1 h2 h3 h4
  unfold pP
  by_cases c1 : C tk = 191
  · have hne : tk ≠ N := fun e => by rw [e, hN] at c1; omega
    rw [if_pos c1]
    cases hP : S (tk + 1) lv with
    | inr t =>
      have := (hG (tk + 1) lv (by omega) (by omega) h3 h4).2 t hP
      exact ⟨fun a t l h => (by cases h), fun t' h => by cases h; omega⟩
    | inl q =>
      obtain ⟨a, t, l⟩ := q
      have hb := (hG (tk + 1) lv (by omega) (by omega) h3 h4).1 a t l hP
      show (∀ a' t' l', (if C t = 193 then (.inl (a, t + 1, l) : PR SXC) else .inr t) = .inl (a', t', l') → _) ∧ (∀ t', (if C t = 193 then (.inl (a, t + 1, l) : PR SXC) else .inr t) = .inr t' → _)
      by_cases c2 : C t = 193
      · have hne2 : t ≠ N := fun e => by rw [e, hN] at c2; omega
        rw [if_pos c2]
        exact ⟨fun a t l h => (by cases h; omega), fun t h => by cases h⟩
      · rw [if_neg c2]
        exact ⟨fun a t l h => (by cases h), fun t h => by cases h; omega⟩
  · rw [if_neg c1]
    by_cases c2 : (C tk = 50 ∧ V tk ≤ 1000) ∨ (fw ≤ C tk ∧ C tk ≤ lw)
    · have hne : tk ≠ N := fun e => by rw [e, hN] at c2; omega
      rw [if_pos c2]
      by_cases c3 : lv = 50
      · rw [if_pos c3]
        exact ⟨fun a t l h => (by cases h), fun t h => by cases h; omega⟩
      · rw [if_neg c3]
        by_cases c4 : io = 1 ∧ (C tk = 14 ∨ C tk = 20)
        · rw [if_pos c4]
          by_cases c5 : C (tk + 1) = 50 ∧ 0 ≤ V (tk + 1) ∧ V (tk + 1) ≤ 19
          · have hne2 : tk + 1 ≠ N := fun e => by rw [e, hN] at c5; omega
            rw [if_pos c5]
            exact ⟨fun a t l h => (by cases h; omega), fun t h => by cases h⟩
          · rw [if_neg c5]
            exact ⟨fun a t l h => (by cases h), fun t h => by cases h; omega⟩
        · rw [if_neg c4]
          exact ⟨fun a t l h => (by cases h; omega), fun t h => by cases h⟩
    · rw [if_neg c2]
      exact ⟨fun a t l h => (by cases h), fun t h => by cases h; omega⟩
theorem pS_R {C V : Int → Int} {io fw lw N : Int} (hN : C N = 0) (hf : 0 < fw) : ∀ m : Nat, GP N (pS C V io fw lw m)
  | 0 => fun tk lv h1 h2 h3 h4 => ⟨fun a t l h => (by cases h), fun t h => by cases h; omega⟩
  | m + 1 => pLV_R hN (by decide) (pLV_R hN (by decide) (pP_R hN hf (pS_R hN hf m)))
theorem pNo_R {C : Int → Int} {N : Int} (hN : C N = 0) : ∀ (k : Nat) (par tk : Int), tk ≤ N → tk ≤ (pNo C k par tk).2 ∧ (pNo C k par tk).2 ≤ N
  | 0, par, tk, h => ⟨Int.le_refl _, h⟩
  | k + 1, par, tk, h => by
    unfold pNo
    by_cases c : C tk = 8
    · have hne : tk ≠ N := fun e => by rw [e, hN] at c; omega
      rw [if_pos c]
      have := pNo_R hN k (1 - par) (tk + 1) (by omega)
      omega
    · rw [if_neg c]
      exact ⟨Int.le_refl _, h⟩
theorem pPb_R {C : Int → Int} {N : Int} {S : Int → Int → PR SXC} {T : Int → Int → PR TXC} (hN : C N = 0) (hS : GP N S) (hT : GP N T) : GP N (pPb C S T) := by
  intro tk lv h1 h2 h3 h4
  unfold pPb
  by_cases c1 : C tk = 140
  · have hne : tk ≠ N := fun e => by rw [e, hN] at c1; omega
    rw [if_pos c1]
    cases hP : T (tk + 1) lv with
    | inr t =>
      have := (hT (tk + 1) lv (by omega) (by omega) h3 h4).2 t hP
      exact ⟨fun a t l h => (by cases h), fun t' h => by cases h; omega⟩
    | inl q =>
      obtain ⟨a, t, l⟩ := q
      have hb := (hT (tk + 1) lv (by omega) (by omega) h3 h4).1 a t l hP
      show (∀ a' t' l', (if C t = 141 then (.inl (a, t + 1, l) : PR TXC) else .inr t) = .inl (a', t', l') → _) ∧ (∀ t', (if C t = 141 then (.inl (a, t + 1, l) : PR TXC) else .inr t) = .inr t' → _)
      by_cases c2 : C t = 141
      · have hne2 : t ≠ N := fun e => by rw [e, hN] at c2; omega
        rw [if_pos c2]
        exact ⟨fun a t l h => (by cases h; omega), fun t h => by cases h⟩
      · rw [if_neg c2]
        exact ⟨fun a t l h => (by cases h), fun t h => by cases h; omega⟩
  · rw [if_neg c1]
    cases hP : S tk lv with
    | inr t =>
      have := (hS tk lv h1 h2 h3 h4).2 t hP
      exact ⟨fun a t l h => (by cases h), fun t' h => by cases h; omega⟩
    | inl q =>
      obtain ⟨a, t, l⟩ := q
      have hb := (hS tk lv h1 h2 h3 h4).1 a t l hP
      simp only
      by_cases c2 : C t = 160 ∨ C t = 162 ∨ C t = 161
      · have hne2 : t ≠ N := fun e => by rw [e, hN] at c2; omega
        rw [if_pos c2]
        cases hP2 : S (t + 1) l with
        | inr t2 =>
          have := (hS (t + 1) l (by omega) (by omega) (by omega) (by omega)).2 t2 hP2
          exact ⟨fun a t l h => (by cases h), fun t' h => by cases h; omega⟩
        | inl q2 =>
          obtain ⟨a2, t2, l2⟩ := q2
          have hb2 := (hS (t + 1) l (by omega) (by omega) (by omega) (by omega)).1 a2 t2 l2 hP2
          exact ⟨fun a t l h => (by cases h; simp only; omega), fun t h => by cases h⟩
      · rw [if_neg c2]
        exact ⟨fun a t l h => (by cases h), fun t h => by cases h; omega⟩
theorem pPl_R {C : Int → Int} {N : Int} {S : Int → Int → PR SXC} {T : Int → Int → PR TXC} (hN : C N = 0) (hS : GP N S) (hT : GP N T) : GP N (pPl C S T) := by
  intro tk lv h1 h2 h3 h4
  have hn := pNo_R hN 401 0 tk h2
  unfold pPl
  cases hP : pPb C S T (pNo C 401 0 tk).2 lv with
  | inr t =>
    have := (pPb_R hN hS hT _ lv (by omega) hn.2 h3 h4).2 t hP
    exact ⟨fun a t l h => (by cases h), fun t' h => by cases h; omega⟩
  | inl q =>
    obtain ⟨a, t, l⟩ := q
    have hb := (pPb_R hN hS hT _ lv (by omega) hn.2 h3 h4).1 a t l hP
    exact ⟨fun a t l h => (by cases h; simp only; omega), fun t h => by cases h⟩
theorem pT_R {C V : Int → Int} {io fw lw N : Int} (hN : C N = 0) (hf : 0 < fw) : ∀ m : Nat, GP N (pT C V io fw lw m)
  | 0 => fun tk lv h1 h2 h3 h4 => ⟨fun a t l h => (by cases h), fun t h => by cases h; omega⟩
  | m + 1 => pLV_R hN (by decide) (pLV_R hN (by decide) (pPl_R hN (pS_R hN hf (m + 1)) (pT_R hN hf m)))
