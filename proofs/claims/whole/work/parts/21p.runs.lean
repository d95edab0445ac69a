/-! PURE: the least of some, what is told of every run of the row -/
def mnF (f : Int → Int) : Nat → Int → Int → Int
  | 0, _, is => is
  | n + 1, q, is => mnF f n (q + 1) (min is (f q))
theorem mnF_s {f : Int → Int} {q b is : Int} (h : q < b) : mnF f (b - q).toNat q is = mnF f (b - (q + 1)).toNat (q + 1) (min is (f q)) := by
  rw [show (b - q).toNat = (b - (q + 1)).toNat + 1 by omega]
  rfl
theorem mnF_0 {f : Int → Int} {q b is : Int} (h : b ≤ q) : mnF f (b - q).toNat q is = is := by
  rw [show (b - q).toNat = 0 by omega]
  rfl
theorem mnF_le {f : Int → Int} : ∀ (n : Nat) (q is : Int), mnF f n q is ≤ is ∧ ∀ j, q ≤ j → j < q + n → mnF f n q is ≤ f j
  | 0, q, is => ⟨Int.le_refl _, fun j h1 h2 => by omega⟩
  | n + 1, q, is => by
    obtain ⟨h1, h2⟩ := mnF_le (f := f) n (q + 1) (min is (f q))
    refine ⟨Int.le_trans h1 (by omega), fun j a1 a2 => ?_⟩
    by_cases e : j = q
    · subst e
      exact Int.le_trans h1 (by omega)
    · exact h2 j (by omega) (by omega)
theorem mnF_at {f : Int → Int} : ∀ (n : Nat) (q is : Int), mnF f n q is = is ∨ ∃ j, q ≤ j ∧ j < q + n ∧ mnF f n q is = f j
  | 0, q, is => Or.inl rfl
  | n + 1, q, is => by
    rcases mnF_at (f := f) n (q + 1) (min is (f q)) with h | ⟨j, h1, h2, h3⟩
    · by_cases c : is ≤ f q
      · left
        show mnF f n (q + 1) _ = _
        rw [h]; omega
      · right
        refine ⟨q, Int.le_refl _, by omega, ?_⟩
        show mnF f n (q + 1) _ = _
        rw [h]; omega
    · right
      exact ⟨j, by omega, by omega, h3⟩
theorem mnF_ge {f : Int → Int} {n : Nat} {q is v : Int} (h : v ≤ is) (h2 : ∀ j, q ≤ j → j < q + n → v ≤ f j) : v ≤ mnF f n q is := by
  rcases mnF_at (f := f) n q is with e | ⟨j, a1, a2, e⟩
  · rw [e]; exact h
  · rw [e]; exact h2 j a1 a2
theorem mnF_congr {f f' : Int → Int} : ∀ (n : Nat) (q is : Int), (∀ j, q ≤ j → j < q + n → f j = f' j) → mnF f n q is = mnF f' n q is
  | 0, q, is, _ => rfl
  | n + 1, q, is, h => by
    show mnF f n (q + 1) (min is (f q)) = mnF f' n (q + 1) (min is (f' q))
    rw [h q (Int.le_refl _) (by omega)]
    exact mnF_congr n (q + 1) _ (fun j a b => h j (by omega) (by omega))
def iv_ (S : (Int → Int → Int) → Int → Int → Int) : Nat → Int → Int → Int
  | 0, _, _ => 0
  | k + 1, a, b => if b ≤ a then 0 else S (iv_ S k) a b
def iv (S : (Int → Int → Int) → Int → Int → Int) (a b : Int) : Int := iv_ S (b - a).toNat a b
def Loc (S : (Int → Int → Int) → Int → Int → Int) : Prop := ∀ (T T' : Int → Int → Int) (a b : Int), a < b → (∀ a' b', a ≤ a' → a' ≤ b' → b' ≤ b → b' - a' < b - a → T a' b' = T' a' b') → S T a b = S T' a b
theorem iv_mono {S : (Int → Int → Int) → Int → Int → Int} (h : Loc S) : ∀ (k : Nat) (a b : Int), b - a ≤ k → iv_ S (k + 1) a b = iv_ S k a b
  | 0, a, b, hk => by
    show (if b ≤ a then 0 else S (iv_ S 0) a b) = 0
    rw [if_pos (by omega)]
  | k + 1, a, b, hk => by
    show (if b ≤ a then 0 else S (iv_ S (k + 1)) a b) = (if b ≤ a then 0 else S (iv_ S k) a b)
    by_cases c : b ≤ a
    · rw [if_pos c, if_pos c]
    · rw [if_neg c, if_neg c]
      exact h _ _ a b (by omega) (fun a' b' h1 h2 h3 h4 => iv_mono h k a' b' (by omega))
theorem iv_fix {S : (Int → Int → Int) → Int → Int → Int} (h : Loc S) {a b : Int} : ∀ (k : Nat), b - a ≤ k → iv_ S k a b = iv S a b
  | 0, hk => by
    unfold iv
    rw [show (b - a).toNat = 0 by omega]
  | k + 1, hk => by
    by_cases c : b - a ≤ k
    · rw [iv_mono h k a b c]
      exact iv_fix h k c
    · unfold iv
      rw [show (b - a).toNat = k + 1 by omega]
theorem iv_eq {S : (Int → Int → Int) → Int → Int → Int} (h : Loc S) {a b : Int} (hab : a < b) : iv S a b = S (iv S) a b := by
  have e : (b - a).toNat = (b - a - 1).toNat + 1 := by omega
  have e2 : iv S a b = if b ≤ a then 0 else S (iv_ S (b - a - 1).toNat) a b := by
    unfold iv
    rw [e]
    rfl
  rw [e2, if_neg (by omega)]
  exact h _ _ a b hab (fun a' b' h1 h2 h3 h4 => iv_fix h _ (by omega))
theorem iv_self {S : (Int → Int → Int) → Int → Int → Int} {a : Int} : iv S a a = 0 := by
  unfold iv
  rw [show (a - a).toNat = 0 by omega]
  rfl
/-- pairs of an opening and a closing sign -/
abbrev prd (K : Int → Int) (p q : Int) : Prop := K (1 + p) < 3 ∧ (3 ≤ K (1 + q) ∧ K (1 + q) ≤ 5) ∧ kd (K (1 + p)) = kd (K (1 + q))
abbrev clo (K : Int → Int) (q : Int) : Prop := 3 ≤ K (1 + q) ∧ K (1 + q) ≤ 5
/-- mending -/
def mdA (K : Int → Int) (c : Int → Int → Int) (far : Int) (T : Int → Int → Int) (a b : Int) : Int := mnF (fun q => if clo K q then c (kd (K (1 + q))) a + T a q + T (q + 1) b else far) (b - a).toNat a far
def mdP (K : Int → Int) (far : Int) (T : Int → Int → Int) (a b : Int) : Int := mnF (fun q => if prd K a q then T (a + 1) q + T (q + 1) b else far) (b - (a + 1)).toNat (a + 1) far
def mdO (K : Int → Int) (c : Int → Int → Int) (far : Int) (T : Int → Int → Int) (a b : Int) : Int := mnF (fun q => T (a + 1) q + c (3 + kd (K (1 + a))) q + T q b) (b + 1 - (a + 1)).toNat (a + 1) (mdP K far T a b)
def mdS (K : Int → Int) (c : Int → Int → Int) (far : Int) (T : Int → Int → Int) (a b : Int) : Int := min far (if K (1 + a) < 3 then min (mdA K c far T a b) (mdO K c far T a b) else if 6 ≤ K (1 + a) then min (mdA K c far T a b) (T (a + 1) b) else mdA K c far T a b)
theorem mdS_def {K : Int → Int} {c : Int → Int → Int} {far : Int} {T : Int → Int → Int} {a b : Int} : mdS K c far T a b = min far (if K (1 + a) < 3 then min (mdA K c far T a b) (mdO K c far T a b) else if 6 ≤ K (1 + a) then min (mdA K c far T a b) (T (a + 1) b) else mdA K c far T a b) := rfl
theorem mdS_loc {K : Int → Int} {c : Int → Int → Int} {far : Int} : Loc (mdS K c far) := by
  intro T T' a b hab h
  have e1 : mdA K c far T a b = mdA K c far T' a b := by
    unfold mdA
    refine mnF_congr _ _ _ (fun j h1 h2 => ?_)
    rw [h a j (by omega) (by omega) (by omega) (by omega), h (j + 1) b (by omega) (by omega) (by omega) (by omega)]
  have e2 : mdP K far T a b = mdP K far T' a b := by
    unfold mdP
    refine mnF_congr _ _ _ (fun j h1 h2 => ?_)
    rw [h (a + 1) j (by omega) (by omega) (by omega) (by omega), h (j + 1) b (by omega) (by omega) (by omega) (by omega)]
  have e3 : mdO K c far T a b = mdO K c far T' a b := by
    unfold mdO
    rw [e2]
    refine mnF_congr _ _ _ (fun j h1 h2 => ?_)
    rw [h (a + 1) j (by omega) (by omega) (by omega) (by omega), h j b (by omega) (by omega) (by omega) (by omega)]
  unfold mdS
  rw [e1, e3, h (a + 1) b (by omega) (by omega) (by omega) (by omega)]
def cA (K : Int → Int) (s p : Int) : Int := if tl K 4 s p 0 = 1 then 1000000 else 64 * tl K 1 s p 1 + 1
def MD (K : Int → Int) : Int → Int → Int := iv (mdS K (cA K) 1000000)
theorem MD_eq {K : Int → Int} {a b : Int} (h : a < b) : MD K a b = mdS K (cA K) 1000000 (MD K) a b := iv_eq mdS_loc h
theorem MD_self {K : Int → Int} {a : Int} : MD K a a = 0 := iv_self
theorem kd_op3 {s : Int} (h0 : 3 ≤ s) (h : s ≤ 5) : kd s = s - 3 := by
  unfold kd
  rw [if_neg (by omega)]
  have h3 : s = 3 ∨ s = 4 ∨ s = 5 := by omega
  rcases h3 with e | e | e <;> subst e <;> decide
theorem mdS_R {K : Int → Int} {c : Int → Int → Int} {far n : Int} (hf : 0 ≤ far) (hs : ∀ j, 0 ≤ j → j < n → 0 ≤ K (1 + j) ∧ K (1 + j) ≤ 11) (hc : ∀ s p, 0 ≤ s → s < 6 → 0 ≤ p → p ≤ n → 0 ≤ c s p) : ∀ (k : Nat) (a b : Int), b - a ≤ k → 0 ≤ a → a ≤ b → b ≤ n → 0 ≤ iv (mdS K c far) a b ∧ iv (mdS K c far) a b ≤ far
  | 0, a, b, hk, h1, h2, h3 => by
    have e : b = a := by omega
    subst e
    rw [iv_self]
    exact ⟨Int.le_refl _, hf⟩
  | k + 1, a, b, hk, h1, h2, h3 => by
    by_cases e : b = a
    · subst e
      rw [iv_self]
      exact ⟨Int.le_refl _, hf⟩
    rw [iv_eq mdS_loc (by omega)]
    have ih : ∀ a' b', a ≤ a' → a' ≤ b' → b' ≤ b → b' - a' < b - a → 0 ≤ iv (mdS K c far) a' b' := fun a' b' q1 q2 q3 q4 => (mdS_R hf hs hc k a' b' (by omega) (by omega) q2 (by omega)).1
    have hA : 0 ≤ mdA K c far (iv (mdS K c far)) a b := by
      unfold mdA
      refine mnF_ge hf (fun j q1 q2 => ?_)
      split
      · next cc =>
        have i1 := ih a j (by omega) (by omega) (by omega) (by omega)
        have i2 := ih (j + 1) b (by omega) (by omega) (by omega) (by omega)
        rw [kd_op3 cc.1 cc.2]
        have i3 := hc (K (1 + j) - 3) a (by omega) (by omega) (by omega) (by omega)
        omega
      · exact hf
    have hP : 0 ≤ mdP K far (iv (mdS K c far)) a b := by
      unfold mdP
      refine mnF_ge hf (fun j q1 q2 => ?_)
      split
      · have i1 := ih (a + 1) j (by omega) (by omega) (by omega) (by omega)
        have i2 := ih (j + 1) b (by omega) (by omega) (by omega) (by omega)
        omega
      · exact hf
    have hsa := hs a h1 (by omega)
    rw [mdS_def]
    split
    · next c1 =>
      have hO : 0 ≤ mdO K c far (iv (mdS K c far)) a b := by
        unfold mdO
        refine mnF_ge hP (fun j q1 q2 => ?_)
        have i1 := ih (a + 1) j (by omega) (by omega) (by omega) (by omega)
        have i2 := ih j b (by omega) (by omega) (by omega) (by omega)
        rw [kd_op hsa.1 c1]
        have i3 := hc (3 + K (1 + a)) j (by omega) (by omega) (by omega) (by omega)
        omega
      omega
    · split
      · have i1 := ih (a + 1) b (by omega) (by omega) (by omega) (by omega)
        omega
      · omega
theorem cA_R {K : Int → Int} {s p : Int} (h : KOK K) (s0 : 0 ≤ s) (s1 : s < 6) (p0 : 0 ≤ p) (p1 : p ≤ K 0) : 0 ≤ cA K s p ∧ cA K s p ≤ 1000000 := by
  have hn := h.1.1.2
  have := h.hasR (head := 1) (s := s) (p := p) (wo := 1) s0 (by omega) p0 (by omega) (by omega)
  unfold cA
  split <;> omega
theorem MD_R {K : Int → Int} {a b : Int} (h : KOK K) (h1 : 0 ≤ a) (h2 : a ≤ b) (h3 : b ≤ K 0) : 0 ≤ MD K a b ∧ MD K a b ≤ 1000000 :=
  mdS_R (by decide) h.1.2.1 (fun s p a1 a2 a3 a4 => (cA_R h a1 a2 a3 a4).1) _ a b (Int.self_le_toNat _) h1 h2 h3
theorem mdA_R {K : Int → Int} {F : Int → Int → Int} {a b : Int} (h : KOK K) (h1 : 0 ≤ a) (h2 : a < b) (h3 : b ≤ K 0) (e : F = MD K := by rfl) : 0 ≤ mdA K (cA K) 1000000 F a b ∧ mdA K (cA K) 1000000 F a b ≤ 1000000 := by
  subst e
  unfold mdA
  refine ⟨mnF_ge (by decide) (fun j q1 q2 => ?_), (mnF_le _ _ _).1⟩
  split
  · next cc =>
    have i1 := MD_R (a := a) (b := j) h (by omega) (by omega) (by omega)
    have i2 := MD_R (a := j + 1) (b := b) h (by omega) (by omega) (by omega)
    rw [kd_op3 cc.1 cc.2]
    have i3 := cA_R (s := K (1 + j) - 3) (p := a) h (by omega) (by omega) (by omega) (by omega)
    omega
  · decide
theorem mdO_R {K : Int → Int} {a b : Int} (h : KOK K) (h1 : 0 ≤ a) (h2 : a < b) (h3 : b ≤ K 0) (ho : K (1 + a) < 3) : 0 ≤ mdO K (cA K) 1000000 (MD K) a b ∧ mdO K (cA K) 1000000 (MD K) a b ≤ 1000000 := by
  have hsa := h.1.2.1 a h1 (by omega)
  have hP : 0 ≤ mdP K 1000000 (MD K) a b ∧ mdP K 1000000 (MD K) a b ≤ 1000000 := by
    unfold mdP
    refine ⟨mnF_ge (by decide) (fun j q1 q2 => ?_), (mnF_le _ _ _).1⟩
    split
    · have i1 := MD_R (a := a + 1) (b := j) h (by omega) (by omega) (by omega)
      have i2 := MD_R (a := j + 1) (b := b) h (by omega) (by omega) (by omega)
      omega
    · decide
  unfold mdO
  refine ⟨mnF_ge hP.1 (fun j q1 q2 => ?_), Int.le_trans (mnF_le _ _ _).1 hP.2⟩
  have i1 := MD_R (a := a + 1) (b := j) h (by omega) (by omega) (by omega)
  have i2 := MD_R (a := j) (b := b) h (by omega) (by omega) (by omega)
  rw [kd_op hsa.1 ho]
  have i3 := cA_R (s := 3 + K (1 + a)) (p := j) h (by omega) (by omega) (by omega) (by omega)
  omega
def mdR (K : Int → Int) (w : Int) : Int := if MD K 0 (K 0) = 1000000 then -1 else if w = 0 then (MD K 0 (K 0)).tdiv 64 else (MD K 0 (K 0)).tmod 64
theorem KR.same {K K' : Int → Int} (h : KR K) (e : ∀ j, j ≠ 25 → K' j = K j) (h2 : -1 ≤ K' 25 ∧ K' 25 < K 24) : KR K' := by
  obtain ⟨a1, a2, a3, a4, a5, a6, a7⟩ := h
  unfold KR
  rw [e 0 (by omega), e 21 (by omega), e 22 (by omega), e 23 (by omega), e 24 (by omega)]
  exact ⟨a1, fun j j0 j1 => by rw [e (1 + j) (by omega)]; exact a2 j j0 j1, a3, a4, a5, a6, h2⟩
theorem KOK.force {K : Int → Int} {w : Int} (h : KOK K) (h1 : -1 ≤ w) (h2 : w < K 24) : KOK (up K 25 w) :=
  ⟨h.1.same (fun j hj => up_ne hj) (by rw [up_eq]; omega), h.2.same (fun j _ hj => up_ne hj)⟩
theorem puR_R {K : Int → Int} {s p : Int} (h : KOK K) : -5 ≤ puR K s p ∧ puR K s p ≤ 99 := by
  have hn := h.1.1.2
  unfold puR
  split
  · decide
  · split
    · decide
    · have := h.hasR (head := 1) (s := s) (p := p) (wo := 1) (by omega) (by omega) (by omega) (by omega) (by omega)
      split
      · decide
      · split <;> omega
theorem cuR_R {K : Int → Int} {p : Int} (h : KOK K) : -5 ≤ cuR K p ∧ cuR K p ≤ 99 := by
  have hn := h.1.1.2
  unfold cuR
  split
  · decide
  · have hs := h.1.2.1 p (by omega) (by omega)
    have := h.hasR (head := 2) (s := K (1 + p)) (p := p) (wo := 1) (by omega) (by omega) (by omega) (by omega) (by omega)
    omega
theorem tuR_R {K : Int → Int} {p s : Int} (h : KOK K) : -5 ≤ tuR K p s ∧ tuR K p s ≤ 99 := by
  unfold tuR
  split
  · decide
  · split
    · decide
    · have hs := h.1.2.1 p (by omega) (by omega)
      split
      · decide
      · omega
theorem paR_R {K : Int → Int} (h : KOK K) : -5 ≤ paR K ∧ paR K ≤ 999 := by
  have := h.1.2.2.1
  unfold paR
  split <;> omega
