/-! PURE: rows that are alike; deeds and what is undone; all laws -/
theorem prS_K {K K' : Int → Int} {a p many loose : Int} {po op : Int → Int} (hK : ∀ q, a ≤ q → q ≤ p → K' (1 + q) = K (1 + q)) (ha : a ≤ p) (hop : ∀ j, 0 ≤ j → j < many → a ≤ op j ∧ op j < p) : prS K' p many loose po op = prS K p many loose po op ∧ (∀ j, 0 ≤ j → j < (prS K p many loose po op).1 → a ≤ (prS K p many loose po op).2.2.2 j ∧ (prS K p many loose po op).2.2.2 j < p + 1) := by
  have h1 := hK p ha (Int.le_refl _)
  refine ⟨?_, ?_⟩
  · unfold prS
    rw [h1]
    by_cases c : K (1 + p) < 3
    · rw [if_pos c, if_pos c]
    · rw [if_neg c, if_neg c]
      by_cases m : 0 < many
      · have h2 := hop (many - 1) (by omega) (by omega)
        rw [hK (op (many - 1)) h2.1 (by omega)]
      · simp only [show (0 < many) = False from eq_false m, false_and, and_false, if_false]
  · intro j j0 j1
    unfold prS at j1 ⊢
    by_cases c : K (1 + p) < 3
    · rw [if_pos c] at j1 ⊢
      dsimp only at j1 ⊢
      by_cases e : j = many
      · rw [e, up_eq]; omega
      · rw [up_ne e]; have := hop j j0 (by omega); omega
    · rw [if_neg c] at j1 ⊢
      split at j1
      · next d =>
        rw [if_pos d]
        dsimp only at j1 ⊢
        have := hop j j0 (by omega)
        omega
      · next d =>
        rw [if_neg d]
        split at j1
        · next f =>
          rw [if_pos f]
          dsimp only at j1 ⊢
          have := hop j j0 (by omega)
          omega
        · next f =>
          rw [if_neg f]
          dsimp only at j1 ⊢
          have := hop j j0 (by omega)
          omega
theorem prs_K {K K' : Int → Int} {a : Int} : ∀ (n : Nat) (p : Int) (q : Int × Int × (Int → Int) × (Int → Int)), (∀ r, a ≤ r → r < p + n → K' (1 + r) = K (1 + r)) → a ≤ p → (∀ j, 0 ≤ j → j < q.1 → a ≤ q.2.2.2 j ∧ q.2.2.2 j < p) → prs K' n p q = prs K n p q
  | 0, p, q, _, _, _ => rfl
  | n + 1, p, q, h1, h2, h3 => by
    have h4 := prS_K (K := K) (K' := K') (many := q.1) (loose := q.2.1) (po := q.2.2.1) (op := q.2.2.2) (fun r r0 r1 => h1 r r0 (by omega)) h2 h3
    show prs K' n (p + 1) (prS K' p q.1 q.2.1 q.2.2.1 q.2.2.2) = prs K n (p + 1) (prS K p q.1 q.2.1 q.2.2.1 q.2.2.2)
    rw [h4.1]
    exact prs_K n (p + 1) _ (fun r r0 r1 => h1 r r0 (by omega)) (by omega) h4.2
theorem prR_K {K K' po op : Int → Int} {a b : Int} (h : ∀ r, a ≤ r → r < b → K' (1 + r) = K (1 + r)) : prR K' a b po op = prR K a b po op := by
  unfold prR
  exact prs_K _ a _ (fun r r0 r1 => h r r0 (by omega)) (Int.le_refl _) (fun j j0 j1 => by dsimp only at j1; omega)
theorem lo_K {K K' : Int → Int} {a b : Int} (h : ∀ r, a ≤ r → r < b → K' (1 + r) = K (1 + r)) : lo K' a b = lo K a b := by
  unfold lo
  rw [prR_K h]
def RE (K K' : Int → Int) : Prop := K' 0 = K 0 ∧ ∀ q, 0 ≤ q → q < K 0 → K' (1 + q) = K (1 + q)
theorem RE.mtE {K K' : Int → Int} (h : RE K K') : mt K' = mt K := by
  funext q
  unfold mt
  rw [h.1, prR_K h.2]
theorem RE.dpE {K K' : Int → Int} (h : RE K K') (p : Int) : dp K' p = dp K p := by
  unfold dp
  rw [h.mtE]
theorem RI.re {K K' : Int → Int} {rn rl rp : Int} {rs rm rd : Int → Int} (h : RI K rn rl rp rs rm rd) (e : RE K K') : RI K' rn rl rp rs rm rd := by
  obtain ⟨h1, h2, h3, h4, h5⟩ := h
  refine ⟨by rw [e.1]; exact h1, h2, fun j j0 j1 => by rw [e.2 j j0 (by omega)]; exact h3 j j0 j1, h4, fun q => ?_⟩
  obtain ⟨h6, h7⟩ := h5 q
  refine ⟨by rw [e.1, lo_K e.2]; exact h6, fun r r0 r1 => ?_⟩
  rw [e.mtE, e.dpE]
  exact h7 r r0 r1
/-- all laws of a state -/
def LA (K : Int → Int) (lx : Nat → Option Nat) (ts : List TD) : Prop := ∀ f : Int, 0 ≤ f → f < K 24 → ∃ j t, lx f.toNat = some j ∧ ts[j]? = some t ∧ LWok K f t
def LB (K : Int → Int) (lx : Nat → Option Nat) (ts : List TD) : Prop := (∀ k, 0 ≤ k → k < 2800 → 0 ≤ K (33 + k) ∧ K (33 + k) ≤ 400) ∧ (∀ k, 0 ≤ k → k ≤ 6 → 0 ≤ K (26 + k) ∧ K (26 + k) ≤ 400) ∧ LA K lx ts
theorem LB.same {K K' : Int → Int} {lx : Nat → Option Nat} {ts : List TD} (h : LB K lx ts) (e : ∀ j, 22 ≤ j → j ≠ 25 → K' j = K j) : LB K' lx ts := by
  obtain ⟨h1, h2, h3⟩ := h
  refine ⟨fun k k0 k1 => by rw [e _ (by omega) (by omega)]; exact h1 k k0 k1, fun k k0 k1 => by rw [e _ (by omega) (by omega)]; exact h2 k k0 k1, fun f f0 f1 => ?_⟩
  obtain ⟨j, t, a1, a2, a3⟩ := h3 f f0 (by rw [← e 24 (by omega) (by omega)]; exact f1)
  exact ⟨j, t, a1, a2, a3.same f0 (fun j hj => e j (by omega) (by omega))⟩
theorem LB.kok {K : Int → Int} {lx : Nat → Option Nat} {ts : List TD} (h : LB K lx ts) (hk : KR K) : KOK K := KOK_of hk h.1 h.2.1 (fun f f0 f1 => by obtain ⟨j, t, -, -, a⟩ := h.2.2 f f0 f1; exact ⟨t, a⟩)
theorem LB.lxE {K : Int → Int} {lx : Nat → Option Nat} {ts : List TD} (h : LB K lx ts) (hk : KR K) : LX K lx ts := fun h0 => by
  obtain ⟨j, t, a1, a2, a3⟩ := h.2.2 (K 25) h0 hk.2.2.2.2.2.2.2
  exact ⟨j, t, a1, a2, a3.rel hk h0⟩
theorem LB.tlR {K : Int → Int} {lx : Nat → Option Nat} {ts : List TD} (h : LB K lx ts) (hk : KR K) {w : Int} (s p : Int) (s0 : 0 ≤ s) (s1 : s ≤ 11) (p0 : 0 ≤ p) (p1 : p ≤ 20) : 0 ≤ tl K w s p 1 ∧ tl K w s p 1 ≤ 99 := (h.kok hk).hasR s0 s1 p0 p1 (by omega)
theorem LB.texts {K : Int → Int} {lx lx' : Nat → Option Nat} {ts ts' : List TD} (h : LB K lx ts) (hk : K 24 ≤ 6) (e : ∀ f, f < 6 → lx' f = lx f) (e2 : ∀ (j : Nat) (t : TD), ts[j]? = some t → ts'[j]? = some t) : LB K lx' ts' := by
  obtain ⟨h1, h2, h3⟩ := h
  refine ⟨h1, h2, fun f f0 f1 => ?_⟩
  obtain ⟨j, t, a1, a2, a3⟩ := h3 f f0 f1
  exact ⟨j, t, by rw [e _ (by omega)]; exact a1, e2 _ _ a2, a3⟩
/-- a row that has changed -/
theorem SI.to {K K' : Int → Int} {lc fo rn rl rp rn' : Int} {rs rm rd tm rs' tm' : Int → Int} (h : SI K lc fo rn rl rp rs rm rd tm) (h0 : rn' = K' 0) (h1 : 0 ≤ rn' ∧ rn' ≤ 20) (h2 : ∀ j, 0 ≤ j → j < rn' → rs' j = K' (1 + j) ∧ 0 ≤ rs' j ∧ rs' j ≤ 11) (h3 : tm' 0 = K' 21 ∧ 0 ≤ K' 21 ∧ K' 21 ≤ 999) (h4 : tm' 1 = tm 1 ∧ tm' 2 = tm 2) (e : ∀ j, 22 ≤ j → K' j = K j) : SI K' lc fo rn' rl 0 rs' rm rd tm' := by
  obtain ⟨hR, ⟨k1, k2, k3, k4, k5, k6, k7⟩, t0, t1, t2, l1, l2⟩ := h
  refine ⟨⟨h0, h1, h2, Or.inl rfl, fun q => absurd q (by decide)⟩, ⟨by omega, fun j j0 j1 => by have := h2 j j0 (by omega); omega, by omega, by rw [e 22 (by omega)]; exact k4, by rw [e 23 (by omega)]; exact k5, by rw [e 24 (by omega)]; exact k6, by rw [e 25 (by omega), e 24 (by omega)]; exact k7⟩, h3.1, by rw [h4.1, e 22 (by omega)]; exact t1, by rw [h4.2, e 23 (by omega)]; exact t2, by rw [e 24 (by omega)]; exact l1, by rw [e 25 (by omega)]; exact l2⟩
theorem SI.page {K K' : Int → Int} {lc fo rn rl rp : Int} {rs rm rd tm tm' : Int → Int} (h : SI K lc fo rn rl rp rs rm rd tm) (r : RE K K') (h3 : tm' 0 = K' 21 ∧ 0 ≤ K' 21 ∧ K' 21 ≤ 999) (h4 : tm' 1 = tm 1 ∧ tm' 2 = tm 2) (e : ∀ j, 22 ≤ j → K' j = K j) : SI K' lc fo rn rl rp rs rm rd tm' := by
  obtain ⟨hR, ⟨k1, k2, k3, k4, k5, k6, k7⟩, t0, t1, t2, l1, l2⟩ := h
  refine ⟨hR.re r, ⟨by rw [r.1]; exact k1, fun j j0 j1 => by rw [r.1] at j1; rw [r.2 j j0 j1]; exact k2 j j0 j1, by omega, by rw [e 22 (by omega)]; exact k4, by rw [e 23 (by omega)]; exact k5, by rw [e 24 (by omega)]; exact k6, by rw [e 25 (by omega), e 24 (by omega)]; exact k7⟩, h3.1, by rw [h4.1, e 22 (by omega)]; exact t1, by rw [h4.2, e 23 (by omega)]; exact t2, by rw [e 24 (by omega)]; exact l1, by rw [e 25 (by omega)]; exact l2⟩
section DEEDS
variable {K : Int → Int} {lc fo rn rl rp : Int} {rs rm rd tm : Int → Int}
theorem putK_0 {s p : Int} : putK K s p 0 = K 0 + 1 := up_eq
theorem putK_at {s p j : Int} (p0 : 0 ≤ p) (p1 : p ≤ K 0) (j0 : 0 ≤ j) (j1 : j ≤ K 0) : putK K s p (1 + j) = if j < p then K (1 + j) else if j = p then s else K j := by
  unfold putK
  rw [up_ne (by omega)]
  by_cases c : j < p
  · rw [if_pos c, up_ne (by omega), cpy_lo (by omega)]
  · rw [if_neg c]
    by_cases c2 : j = p
    · rw [if_pos c2, c2, up_eq]
    · rw [if_neg c2, up_ne (by omega), cpy_in (by omega) (by omega)]
      congr 1
      omega
theorem putK_hi {s p j : Int} (p0 : 0 ≤ p) (p1 : p ≤ K 0) (hn : K 0 < 20) (h : 21 ≤ j) : putK K s p j = K j := by
  unfold putK
  rw [up_ne (by omega), up_ne (by omega), cpy_hi (by omega)]
theorem cutK_0 {p : Int} (p0 : 0 ≤ p) (p1 : p < K 0) : cutK K p 0 = K 0 - 1 := by
  unfold cutK
  rw [up_ne (by omega), cpy_lo (by omega), up_eq]
theorem cutK_at {p j : Int} (p0 : 0 ≤ p) (p1 : p < K 0) (j0 : 0 ≤ j) (j1 : j < K 0 - 1) : cutK K p (1 + j) = if j < p then K (1 + j) else K (2 + j) := by
  unfold cutK
  rw [up_ne (by omega)]
  by_cases c : j < p
  · rw [if_pos c, cpy_lo (by omega), up_ne (by omega)]
  · rw [if_neg c, cpy_in (by omega) (by omega), up_ne (by omega)]
    congr 1
    omega
theorem cutK_hi {p j : Int} (p0 : 0 ≤ p) (p1 : p < K 0) (hn : K 0 ≤ 20) (h : 21 ≤ j) : cutK K p j = K j := by
  unfold cutK
  rw [up_ne (by omega), cpy_hi (by omega), up_ne (by omega)]
theorem SI.put (h : SI K lc fo rn rl rp rs rm rd tm) {s p : Int} (s0 : 0 ≤ s) (s1 : s ≤ 11) (p0 : 0 ≤ p) (p1 : p ≤ K 0) (hn : K 0 < 20) : SI (putK K s p) lc fo (rn + 1) rl 0 (up (cpy rs rs p (p + 1) (rn - p)) p s) rm rd tm := by
  obtain ⟨⟨a1, a2, a3, -⟩, k, t0, -⟩ := id h
  refine h.to (by rw [putK_0]; omega) (by omega) (fun j j0 j1 => ?_) (by rw [putK_hi p0 p1 hn (by omega)]; exact ⟨t0, k.2.2.1⟩) ⟨rfl, rfl⟩ (fun j hj => putK_hi p0 p1 hn (by omega))
  rw [putK_at p0 p1 j0 (by omega)]
  by_cases c : j = p
  · rw [c, up_eq, if_neg (by omega), if_pos rfl]
    exact ⟨rfl, s0, s1⟩
  · rw [up_ne c]
    by_cases c2 : j < p
    · rw [cpy_lo (by omega), if_pos c2]
      exact a3 j j0 (by omega)
    · rw [cpy_in (by omega) (by omega), if_neg c2, if_neg c]
      have := a3 (p + (j - (p + 1))) (by omega) (by omega)
      rw [show 1 + (p + (j - (p + 1))) = j by omega] at this
      exact this
theorem SI.cut (h : SI K lc fo rn rl rp rs rm rd tm) {p : Int} (p0 : 0 ≤ p) (p1 : p < K 0) : SI (cutK K p) lc fo (rn - 1) rl 0 (cpy rs rs (p + 1) p (rn - p - 1)) rm rd tm := by
  obtain ⟨⟨a1, a2, a3, -⟩, k, t0, -⟩ := id h
  refine h.to (by rw [cutK_0 p0 p1]; omega) (by omega) (fun j j0 j1 => ?_) (by rw [cutK_hi p0 p1 (by omega) (by omega)]; exact ⟨t0, k.2.2.1⟩) ⟨rfl, rfl⟩ (fun j hj => cutK_hi p0 p1 (by omega) (by omega))
  rw [cutK_at p0 p1 j0 (by omega)]
  by_cases c2 : j < p
  · rw [cpy_lo (by omega), if_pos c2]
    exact a3 j j0 (by omega)
  · rw [cpy_in (by omega) (by omega), if_neg c2]
    have := a3 (p + 1 + (j - p)) (by omega) (by omega)
    rw [show 1 + (p + 1 + (j - p)) = 2 + j by omega] at this
    exact this
theorem SI.turn (h : SI K lc fo rn rl rp rs rm rd tm) {s p : Int} (s0 : 0 ≤ s) (s1 : s ≤ 11) (p0 : 0 ≤ p) (p1 : p < K 0) : SI (up K (1 + p) s) lc fo rn rl 0 (up rs p s) rm rd tm := by
  obtain ⟨⟨a1, a2, a3, -⟩, k, t0, -⟩ := id h
  refine h.to (by rw [up_ne (by omega)]; exact a1) a2 (fun j j0 j1 => ?_) (by rw [up_ne (by omega)]; exact ⟨t0, k.2.2.1⟩) ⟨rfl, rfl⟩ (fun j hj => up_ne (by omega))
  by_cases c : j = p
  · rw [c, up_eq, up_eq]
    exact ⟨rfl, s0, s1⟩
  · rw [up_ne c, up_ne (by omega)]
    exact a3 j j0 j1
theorem SI.pass (h : SI K lc fo rn rl rp rs rm rd tm) (hp : K 21 < 999) : SI (up K 21 (K 21 + 1)) lc fo rn rl rp rs rm rd (up tm 0 (tm 0 + 1)) := by
  obtain ⟨⟨a1, a2, a3, -⟩, k, t0, -⟩ := id h
  have k3 := k.2.2.1
  exact h.page ⟨up_ne (by decide), fun q q0 q1 => up_ne (by omega)⟩ (by rw [up_eq, up_eq, t0]; omega) ⟨up_ne (by decide), up_ne (by decide)⟩ (fun j hj => up_ne (by omega))
end DEEDS
/-- a deed turned A into B -/
def UnS (k p g : Int) (A B : Int → Int) : Prop :=
  (k = 0 ∧ (0 ≤ p ∧ p ≤ A 0 ∧ A 0 < 20) ∧ B 0 = A 0 + 1 ∧ B 21 = A 21 ∧ ∀ i, 0 ≤ i → i < A 0 → A (1 + i) = B (1 + (if i < p then i else i + 1))) ∨
  (k = 1 ∧ (0 ≤ p ∧ p < A 0) ∧ B 0 = A 0 - 1 ∧ B 21 = A 21 ∧ ∀ i, 0 ≤ i → i < A 0 → A (1 + i) = (if i < p then B (1 + i) else if i = p then g else B i)) ∨
  (k = 2 ∧ (0 ≤ p ∧ p < A 0) ∧ B 0 = A 0 ∧ B 21 = A 21 ∧ ∀ i, 0 ≤ i → i < A 0 → A (1 + i) = (if i = p then g else B (1 + i))) ∨
  (k = 3 ∧ B 0 = A 0 ∧ B 21 = A 21 + 1 ∧ ∀ i, 0 ≤ i → i < A 0 → A (1 + i) = B (1 + i))
theorem UnS.cB {k p g : Int} {A B B' : Int → Int} (h : UnS k p g A B) (hA : A 0 ≤ 20) (e : ∀ i, 0 ≤ i → i ≤ 21 → B' i = B i) : UnS k p g A B' := by
  have e0 := e 0 (by omega) (by omega)
  have e21 := e 21 (by omega) (by omega)
  rcases h with ⟨h1, h2, h3, h4, h5⟩ | ⟨h1, h2, h3, h4, h5⟩ | ⟨h1, h2, h3, h4, h5⟩ | ⟨h1, h3, h4, h5⟩
  · refine Or.inl ⟨h1, h2, by omega, by omega, fun i i0 i1 => ?_⟩
    rw [e _ (by split <;> omega) (by split <;> omega)]
    exact h5 i i0 i1
  · refine Or.inr (Or.inl ⟨h1, h2, by omega, by omega, fun i i0 i1 => ?_⟩)
    rw [e _ (by omega) (by omega), e _ (by omega) (by omega)]
    exact h5 i i0 i1
  · refine Or.inr (Or.inr (Or.inl ⟨h1, h2, by omega, by omega, fun i i0 i1 => ?_⟩))
    rw [e _ (by omega) (by omega)]
    exact h5 i i0 i1
  · refine Or.inr (Or.inr (Or.inr ⟨h1, by omega, by omega, fun i i0 i1 => ?_⟩))
    rw [e _ (by omega) (by omega)]
    exact h5 i i0 i1
theorem UnS.cA {k p g : Int} {A A' B : Int → Int} (h : UnS k p g A B) (hA : A 0 ≤ 20) (e : ∀ i, 0 ≤ i → i ≤ 21 → A' i = A i) : UnS k p g A' B := by
  have e0 := e 0 (by omega) (by omega)
  have e21 := e 21 (by omega) (by omega)
  rcases h with ⟨h1, h2, h3, h4, h5⟩ | ⟨h1, h2, h3, h4, h5⟩ | ⟨h1, h2, h3, h4, h5⟩ | ⟨h1, h3, h4, h5⟩
  · exact Or.inl ⟨h1, by omega, by omega, by omega, fun i i0 i1 => by rw [e _ (by omega) (by omega)]; exact h5 i i0 (by omega)⟩
  · exact Or.inr (Or.inl ⟨h1, by omega, by omega, by omega, fun i i0 i1 => by rw [e _ (by omega) (by omega)]; exact h5 i i0 (by omega)⟩)
  · exact Or.inr (Or.inr (Or.inl ⟨h1, by omega, by omega, by omega, fun i i0 i1 => by rw [e _ (by omega) (by omega)]; exact h5 i i0 (by omega)⟩))
  · exact Or.inr (Or.inr (Or.inr ⟨h1, by omega, by omega, fun i i0 i1 => by rw [e _ (by omega) (by omega)]; exact h5 i i0 (by omega)⟩))
theorem UnS.put {K : Int → Int} {s p : Int} (p0 : 0 ≤ p) (p1 : p ≤ K 0) (hn : K 0 < 20) : UnS 0 p s K (putK K s p) := by
  refine Or.inl ⟨rfl, by omega, putK_0, putK_hi p0 p1 hn (by omega), fun i i0 i1 => ?_⟩
  by_cases c : i < p
  · rw [if_pos c, putK_at p0 p1 i0 (by omega), if_pos c]
  · rw [if_neg c, putK_at p0 p1 (by omega) (by omega), if_neg (by omega), if_neg (by omega), show 1 + i = i + 1 by omega]
theorem UnS.cut {K : Int → Int} {g p : Int} (p0 : 0 ≤ p) (p1 : p < K 0) (hn : K 0 ≤ 20) (hg : g = K (1 + p)) : UnS 1 p g K (cutK K p) := by
  refine Or.inr (Or.inl ⟨rfl, by omega, cutK_0 p0 p1, cutK_hi p0 p1 hn (by omega), fun i i0 i1 => ?_⟩)
  by_cases c : i < p
  · rw [if_pos c, cutK_at p0 p1 i0 (by omega), if_pos c]
  · rw [if_neg c]
    by_cases c2 : i = p
    · rw [if_pos c2, c2, hg]
    · rw [if_neg c2, show i = 1 + (i - 1) by omega, cutK_at p0 p1 (by omega) (by omega), if_neg (by omega)]
      congr 1
      omega
theorem UnS.turn {K : Int → Int} {g s p : Int} (p0 : 0 ≤ p) (p1 : p < K 0) (hn : K 0 ≤ 20) (hg : g = K (1 + p)) : UnS 2 p g K (up K (1 + p) s) := by
  refine Or.inr (Or.inr (Or.inl ⟨rfl, by omega, up_ne (by omega), up_ne (by omega), fun i i0 i1 => ?_⟩))
  by_cases c : i = p
  · rw [if_pos c, c, hg]
  · rw [if_neg c, up_ne (by omega)]
theorem UnS.pass {K : Int → Int} {p g : Int} (hn : K 0 ≤ 20) : UnS 3 p g K (up K 21 (K 21 + 1)) :=
  Or.inr (Or.inr (Or.inr ⟨rfl, up_ne (by decide), up_eq, fun i i0 i1 => by rw [up_ne (by omega)]⟩))
def KS (A : Int → Int) : Prop := (0 ≤ A 0 ∧ A 0 ≤ 20) ∧ (∀ i, 0 ≤ i → i < A 0 → 0 ≤ A (1 + i) ∧ A (1 + i) ≤ 11) ∧ (0 ≤ A 21 ∧ A 21 ≤ 999)
theorem KS.same {A A' : Int → Int} (h : KS A) (e : ∀ i, 0 ≤ i → i ≤ 21 → A' i = A i) : KS A' := by
  obtain ⟨h1, h2, h3⟩ := h
  have e0 := e 0 (by omega) (by omega)
  have e21 := e 21 (by omega) (by omega)
  exact ⟨by omega, fun i i0 i1 => by rw [e _ (by omega) (by omega)]; exact h2 i i0 (by omega), by omega⟩
theorem KR.ks {K : Int → Int} (h : KR K) : KS K := ⟨h.1, h.2.1, h.2.2.1⟩
def UR (K Z : Int → Int) (u : Int) (dk dl dg : Int → Int) : Prop := (0 ≤ u ∧ u ≤ 16) ∧ (∀ j, 0 ≤ j → j < 16 → R32 (dl j)) ∧ ∀ j, 0 ≤ j → j < u → Z (23 * j + 22) = dk j ∧ KS (fun i => Z (23 * j + i)) ∧ UnS (dk j) (dl j) (dg j) (fun i => Z (23 * j + i)) (if j + 1 = u then K else fun i => Z (23 * (j + 1) + i))
theorem UR.none {K Z dk dl dg K' Z' : Int → Int} {u : Int} (h : UR K Z u dk dl dg) : UR K' Z' 0 dk dl dg := ⟨by omega, h.2.1, fun j j0 j1 => by omega⟩
theorem UR.same {K K' Z dk dl dg : Int → Int} {u : Int} (h : UR K Z u dk dl dg) (e : ∀ i, 0 ≤ i → i ≤ 21 → K' i = K i) : UR K' Z u dk dl dg := by
  refine ⟨h.1, h.2.1, fun j j0 j1 => ?_⟩
  obtain ⟨h1, h2, h3⟩ := h.2.2 j j0 j1
  refine ⟨h1, h2, ?_⟩
  by_cases c : j + 1 = u
  · rw [if_pos c] at h3 ⊢
    exact h3.cB h2.1.2 e
  · rw [if_neg c] at h3 ⊢
    exact h3
theorem rmD_v {x : Int → Int} {u v : Int} : rmD x u v (shU u) = v := up_eq
theorem rmD_lo {x : Int → Int} {u v j : Int} (hu : 0 ≤ u ∧ u ≤ 16) (j0 : 0 ≤ j) (j1 : j < shU u) : rmD x u v j = x (j + (if u = 16 then 1 else 0)) := by
  unfold rmD shD
  rw [up_ne (by omega)]
  unfold shU at j1
  by_cases c : u = 16
  · rw [if_pos c] at j1 ⊢
    rw [if_pos c, cpy_in (by omega) (by omega)]
    congr 1
    omega
  · rw [if_neg c] at j1 ⊢
    rw [if_neg c]
    congr 1
    omega
theorem kpL_v {K Z : Int → Int} {u w i : Int} (i0 : 0 ≤ i) (i1 : i ≤ 21) : kpL K Z u w (23 * shU u + i) = K i := by
  unfold kpL
  rw [up_ne (by omega), cpy_in (by omega) (by omega)]
  congr 1
  omega
theorem kpL_w {K Z : Int → Int} {u w : Int} : kpL K Z u w (23 * shU u + 22) = w := up_eq
theorem kpL_lo {K Z : Int → Int} {u w j i : Int} (hu : 0 ≤ u ∧ u ≤ 16) (j0 : 0 ≤ j) (j1 : j < shU u) (i0 : 0 ≤ i) (i1 : i ≤ 22) : kpL K Z u w (23 * j + i) = Z (23 * (j + (if u = 16 then 1 else 0)) + i) := by
  unfold kpL shL
  rw [up_ne (by omega), cpy_lo (by omega)]
  unfold shU at j1
  by_cases c : u = 16
  · rw [if_pos c] at j1 ⊢
    rw [if_pos c, cpy_in (by omega) (by omega)]
    congr 1
    omega
  · rw [if_neg c, if_neg c]
    congr 1
    omega
theorem UR.rem {K K' Z dk dl dg : Int → Int} {u k p g : Int} (h : UR K Z u dk dl dg) (hk : KS K) (hu : UnS k p g K K') (hp : R32 p) : UR K' (kpL K Z u k) (shU u + 1) (rmD dk u k) (rmD dl u p) (rmD dg u g) := by
  obtain ⟨h0, h1, h2⟩ := h
  have hv : 0 ≤ shU u ∧ shU u ≤ 15 := by unfold shU; split <;> omega
  refine ⟨by omega, fun j j0 j1 => ?_, fun j j0 j1 => ?_⟩
  · by_cases c : j = shU u
    · rw [c, rmD_v]; exact hp
    · by_cases c2 : j < shU u
      · rw [rmD_lo h0 j0 c2]
        refine h1 _ (by split <;> omega) ?_
        unfold shU at c2
        split at c2 <;> split <;> omega
      · unfold rmD shD
        rw [up_ne c]
        by_cases c3 : u = 16
        · have : shU u = 15 := by unfold shU; rw [if_pos c3]
          omega
        · rw [if_neg c3]; exact h1 j j0 j1
  · by_cases c : j = shU u
    · rw [c, rmD_v, rmD_v, rmD_v, if_pos rfl]
      refine ⟨kpL_w, hk.same (fun i i0 i1 => kpL_v i0 i1), hu.cA hk.1.2 (fun i i0 i1 => kpL_v i0 i1)⟩
    · have c2 : j < shU u := by omega
      rw [rmD_lo h0 j0 c2, rmD_lo h0 j0 c2, rmD_lo h0 j0 c2, if_neg (show ¬ j + 1 = shU u + 1 by omega)]
      have hj : j + (if u = 16 then 1 else 0) < u := by unfold shU at c2; split at c2 <;> split <;> omega
      obtain ⟨a1, a2, a3⟩ := h2 _ (show 0 ≤ j + (if u = 16 then 1 else 0) by split <;> omega) hj
      refine ⟨by rw [kpL_lo h0 j0 c2 (by omega) (by omega)]; exact a1, a2.same (fun i i0 i1 => kpL_lo h0 j0 c2 i0 (by omega)), ?_⟩
      refine UnS.cA (A := fun i => Z (23 * (j + (if u = 16 then 1 else 0)) + i)) ?_ a2.1.2 (fun i i0 i1 => kpL_lo h0 j0 c2 i0 (by omega))
      refine a3.cB a2.1.2 (fun i i0 i1 => ?_)
      by_cases d : j + 1 = shU u
      · rw [d, kpL_v i0 i1, if_pos (show j + (if u = 16 then 1 else 0) + 1 = u by unfold shU at d; split at d <;> split <;> omega)]
      · rw [kpL_lo h0 (by omega) (by omega) i0 (by omega), if_neg (show ¬ j + (if u = 16 then 1 else 0) + 1 = u by unfold shU at d c2; split at d <;> split <;> omega)]
        congr 1
        omega
theorem UR.undo {K Z dk dl dg : Int → Int} {u : Int} (h : UR K Z u dk dl dg) (h1 : 1 ≤ u) : UR (cpy Z K (23 * (u - 1)) 0 22) Z (u - 1) dk dl dg := by
  refine ⟨by have := h.1; omega, h.2.1, fun j j0 j1 => ?_⟩
  obtain ⟨a1, a2, a3⟩ := h.2.2 j j0 (by omega)
  refine ⟨a1, a2, ?_⟩
  rw [if_neg (by omega)] at a3
  by_cases c : j + 1 = u - 1
  · rw [if_pos c]
    refine a3.cB a2.1.2 (fun i i0 i1 => ?_)
    rw [cpy_in (by omega) (by omega), c]
    congr 1
    omega
  · rw [if_neg c]
    exact a3
section UNDO
variable {K Z dk dl dg : Int → Int} {u lc fo rn rl rp : Int} {rs rm rd tm : Int → Int}
theorem UR.last (h : UR K Z u dk dl dg) (h1 : 1 ≤ u) : Z (23 * (u - 1) + 22) = dk (u - 1) ∧ KS (cpy Z K (23 * (u - 1)) 0 22) ∧ UnS (dk (u - 1)) (dl (u - 1)) (dg (u - 1)) (cpy Z K (23 * (u - 1)) 0 22) K := by
  obtain ⟨a1, a2, a3⟩ := h.2.2 (u - 1) (by omega) (by omega)
  rw [if_pos (by omega)] at a3
  have e : ∀ i, 0 ≤ i → i ≤ 21 → cpy Z K (23 * (u - 1)) 0 22 i = Z (23 * (u - 1) + i) := fun i i0 i1 => by
    rw [cpy_in (by omega) (by omega)]
    congr 1
    omega
  exact ⟨a1, a2.same e, a3.cA a2.1.2 e⟩
theorem undo_hi {j : Int} (hj : 22 ≤ j) : cpy Z K (23 * (u - 1)) 0 22 j = K j := cpy_hi (by omega)
theorem SI.un0 {A : Int → Int} {p g : Int} (h : SI K lc fo rn rl rp rs rm rd tm) (hA : KS A) (e : ∀ j, 22 ≤ j → A j = K j) (hu : UnS 0 p g A K) : SI A lc fo (rn - 1) rl 0 (cpy rs rs (p + 1) p (rn - p - 1)) rm rd tm := by
  obtain ⟨⟨a1, a2, a3, -⟩, k, t0, -⟩ := id h
  rcases hu with ⟨b1, b2, b3, b4, b5⟩ | ⟨b1, -⟩ | ⟨b1, -⟩ | ⟨b1, -⟩
  · refine h.to (by omega) (by omega) (fun j j0 j1 => ?_) ⟨by omega, hA.2.2⟩ ⟨rfl, rfl⟩ e
    rw [b5 j j0 (by omega)]
    by_cases c : j < p
    · rw [cpy_lo (by omega), if_pos c]
      exact a3 j j0 (by omega)
    · rw [cpy_in (by omega) (by omega), if_neg c]
      have := a3 (p + 1 + (j - p)) (by omega) (by omega)
      rw [show p + 1 + (j - p) = j + 1 by omega] at this ⊢
      exact this
  all_goals exact absurd b1 (by decide)
theorem SI.un1 {A : Int → Int} {p g : Int} (h : SI K lc fo rn rl rp rs rm rd tm) (hA : KS A) (e : ∀ j, 22 ≤ j → A j = K j) (hu : UnS 1 p g A K) : SI A lc fo (rn + 1) rl 0 (up (cpy rs rs p (p + 1) (rn - p)) p g) rm rd tm := by
  obtain ⟨⟨a1, a2, a3, -⟩, k, t0, -⟩ := id h
  rcases hu with ⟨b1, -⟩ | ⟨b1, b2, b3, b4, b5⟩ | ⟨b1, -⟩ | ⟨b1, -⟩
  · exact absurd b1 (by decide)
  · have h20 := hA.1
    refine h.to (by omega) (by omega) (fun j j0 j1 => ?_) ⟨by omega, hA.2.2⟩ ⟨rfl, rfl⟩ e
    have h11 := hA.2.1 j j0 (by omega)
    rw [b5 j j0 (by omega)] at h11 ⊢
    by_cases c : j = p
    · rw [c, if_neg (by omega), if_pos rfl] at h11
      rw [c, up_eq, if_neg (by omega), if_pos rfl]
      exact ⟨rfl, h11⟩
    · rw [up_ne c]
      by_cases c2 : j < p
      · rw [cpy_lo (by omega), if_pos c2]
        exact a3 j j0 (by omega)
      · rw [cpy_in (by omega) (by omega), if_neg c2, if_neg c]
        have := a3 (p + (j - (p + 1))) (by omega) (by omega)
        rw [show 1 + (p + (j - (p + 1))) = j by omega] at this
        exact this
  all_goals exact absurd b1 (by decide)
theorem SI.un2 {A : Int → Int} {p g : Int} (h : SI K lc fo rn rl rp rs rm rd tm) (hA : KS A) (e : ∀ j, 22 ≤ j → A j = K j) (hu : UnS 2 p g A K) : SI A lc fo rn rl 0 (up rs p g) rm rd tm := by
  obtain ⟨⟨a1, a2, a3, -⟩, k, t0, -⟩ := id h
  rcases hu with ⟨b1, -⟩ | ⟨b1, -⟩ | ⟨b1, b2, b3, b4, b5⟩ | ⟨b1, -⟩
  · exact absurd b1 (by decide)
  · exact absurd b1 (by decide)
  · refine h.to (by omega) (by omega) (fun j j0 j1 => ?_) ⟨by omega, hA.2.2⟩ ⟨rfl, rfl⟩ e
    have h11 := hA.2.1 j j0 (by omega)
    rw [b5 j j0 (by omega)] at h11 ⊢
    by_cases c : j = p
    · rw [if_pos c] at h11 ⊢
      rw [c, up_eq]
      exact ⟨rfl, h11⟩
    · rw [up_ne c, if_neg c]
      exact a3 j j0 (by omega)
  · exact absurd b1 (by decide)
theorem SI.un3 {A : Int → Int} {p g : Int} (h : SI K lc fo rn rl rp rs rm rd tm) (hA : KS A) (e : ∀ j, 22 ≤ j → A j = K j) (hu : UnS 3 p g A K) : SI A lc fo rn rl rp rs rm rd (up tm 0 (tm 0 - 1)) := by
  obtain ⟨⟨a1, a2, a3, -⟩, k, t0, -⟩ := id h
  rcases hu with ⟨b1, -⟩ | ⟨b1, -⟩ | ⟨b1, -⟩ | ⟨b1, b3, b4, b5⟩
  · exact absurd b1 (by decide)
  · exact absurd b1 (by decide)
  · exact absurd b1 (by decide)
  · exact h.page ⟨by omega, fun q q0 q1 => b5 q q0 (by omega)⟩ ⟨by rw [up_eq]; omega, hA.2.2⟩ ⟨up_ne (by decide), up_ne (by decide)⟩ e
theorem UR.dk3 (h : UR K Z u dk dl dg) (j : Int) (j0 : 0 ≤ j) (j1 : j < u) : 0 ≤ dk j ∧ dk j ≤ 3 := by
  obtain ⟨-, -, a3⟩ := h.2.2 j j0 j1
  rcases a3 with ⟨b1, -⟩ | ⟨b1, -⟩ | ⟨b1, -⟩ | ⟨b1, -⟩ <;> omega
theorem UR.ok (h : UR K Z u dk dl dg) (h1 : 1 ≤ u) : (dk (u - 1) = 0 → 0 ≤ dl (u - 1) ∧ dl (u - 1) < K 0) ∧ (dk (u - 1) = 1 → K 0 < 20 ∧ 0 ≤ dl (u - 1) ∧ dl (u - 1) ≤ K 0) ∧ (dk (u - 1) = 2 → 0 ≤ dl (u - 1) ∧ dl (u - 1) < K 0) := by
  obtain ⟨-, a2, a3⟩ := h.last h1
  have := a2.1
  refine ⟨fun q => ?_, fun q => ?_, fun q => ?_⟩
  all_goals
    rcases a3 with ⟨b1, b2, b3, -⟩ | ⟨b1, b2, b3, -⟩ | ⟨b1, b2, b3, -⟩ | ⟨b1, -⟩ <;> omega
end UNDO
