/-! PURE: two ways to write a cost and a number of signs -/
def Rl (n V W : Int) : Prop := (V = 1000000 ∧ W = 100000000) ∨ ∃ C S : Int, 0 ≤ C ∧ C ≤ 99 * n ∧ 0 ≤ S ∧ S ≤ n ∧ V = 64 * C + S ∧ W = 100 * C + S
def Rc (n V W : Int) : Prop := Rl n (min 1000000 V) (min 100000000 W)
theorem Rl.mins {n V W V2 W2 : Int} (hn : n ≤ 20) (h : Rl n V W) (h2 : Rl n V2 W2) : Rl n (min V V2) (min W W2) := by
  rcases h with ⟨e1, e2⟩ | ⟨C, S, c0, c1, s0, s1, e1, e2⟩ <;> rcases h2 with ⟨f1, f2⟩ | ⟨C2, S2, d0, d1, t0, t1, f1, f2⟩
  · left; omega
  · exact Or.inr ⟨C2, S2, d0, d1, t0, t1, by omega, by omega⟩
  · exact Or.inr ⟨C, S, c0, c1, s0, s1, by omega, by omega⟩
  · by_cases z : V ≤ V2
    · exact Or.inr ⟨C, S, c0, c1, s0, s1, by omega, by omega⟩
    · exact Or.inr ⟨C2, S2, d0, d1, t0, t1, by omega, by omega⟩
theorem Rc.mins {n V W V2 W2 : Int} (hn : n ≤ 20) (h : Rc n V W) (h2 : Rc n V2 W2) : Rc n (min V V2) (min W W2) := by
  unfold Rc at h h2 ⊢
  rw [show min 1000000 (min V V2) = min (min 1000000 V) (min 1000000 V2) by omega, show min 100000000 (min W W2) = min (min 100000000 W) (min 100000000 W2) by omega]
  exact Rl.mins hn h h2
theorem Rc_far {n : Int} : Rc n 1000000 100000000 := Or.inl ⟨by omega, by omega⟩
theorem Rl.rc {n m V W : Int} (hn : n ≤ 20) (hm : m ≤ n) (h : Rl m V W) : Rc n V W := by
  rcases h with ⟨e1, e2⟩ | ⟨C, S, c0, c1, s0, s1, e1, e2⟩
  · exact Or.inl ⟨by omega, by omega⟩
  · exact Or.inr ⟨C, S, c0, by omega, s0, by omega, by omega, by omega⟩
theorem Rc_mnF {n : Int} (hn : n ≤ 20) {f f2 : Int → Int} : ∀ (k : Nat) (q x y : Int), Rc n x y → (∀ j, q ≤ j → j < q + k → Rc n (f j) (f2 j)) → Rc n (mnF f k q x) (mnF f2 k q y)
  | 0, q, x, y, h, _ => h
  | k + 1, q, x, y, h, hj => Rc_mnF hn k (q + 1) _ _ (Rc.mins hn h (hj q (by omega) (by omega))) (fun j j0 j1 => hj j (by omega) (by omega))
theorem Rc_2 {n m m2 V W V2 W2 : Int} (hn : n ≤ 20) (hm : m + m2 ≤ n) (h : Rl m V W) (h2 : Rl m2 V2 W2) : Rc n (V + V2) (W + W2) := by
  rcases h with ⟨e1, e2⟩ | ⟨C, S, c0, c1, s0, s1, e1, e2⟩ <;> rcases h2 with ⟨f1, f2⟩ | ⟨C2, S2, d0, d1, t0, t1, f1, f2⟩
  · exact Or.inl ⟨by omega, by omega⟩
  · exact Or.inl ⟨by omega, by omega⟩
  · exact Or.inl ⟨by omega, by omega⟩
  · exact Or.inr ⟨C + C2, S + S2, by omega, by omega, by omega, by omega, by omega, by omega⟩
theorem Rc_3 {n m m2 c c2 V W V2 W2 : Int} (hn : n ≤ 20) (hm : m + m2 + 1 ≤ n) (hc : (c = 1000000 ∧ c2 = 100000000) ∨ ∃ t : Int, 0 ≤ t ∧ t ≤ 99 ∧ c = 64 * t + 1 ∧ c2 = t * 100 + 1) (h : Rl m V W) (h2 : Rl m2 V2 W2) : Rc n (c + V + V2) (c2 + W + W2) := by
  rcases hc with ⟨g1, g2⟩ | ⟨t, u0, u1, g1, g2⟩ <;> rcases h with ⟨e1, e2⟩ | ⟨C, S, c0, c1, s0, s1, e1, e2⟩ <;> rcases h2 with ⟨f1, f2⟩ | ⟨C2, S2, d0, d1, t0, t1, f1, f2⟩
  · exact Or.inl ⟨by omega, by omega⟩
  · exact Or.inl ⟨by omega, by omega⟩
  · exact Or.inl ⟨by omega, by omega⟩
  · exact Or.inl ⟨by omega, by omega⟩
  · exact Or.inl ⟨by omega, by omega⟩
  · exact Or.inl ⟨by omega, by omega⟩
  · exact Or.inl ⟨by omega, by omega⟩
  · exact Or.inr ⟨C + t + C2, S + 1 + S2, by omega, by omega, by omega, by omega, by omega, by omega⟩
theorem cAB {K : Int → Int} (hTL : ∀ s p, 0 ≤ s → s ≤ 11 → 0 ≤ p → p ≤ 20 → 0 ≤ tl K 1 s p 1 ∧ tl K 1 s p 1 ≤ 99) {s p : Int} (s0 : 0 ≤ s) (s1 : s < 6) (p0 : 0 ≤ p) (p1 : p ≤ 20) : (cA K s p = 1000000 ∧ cB (pB K) s p = 100000000) ∨ ∃ t : Int, 0 ≤ t ∧ t ≤ 99 ∧ cA K s p = 64 * t + 1 ∧ cB (pB K) s p = t * 100 + 1 := by
  have h := hTL s p s0 (by omega) p0 p1
  by_cases z : tl K 4 s p 0 = 1
  · have e : pB K s p = 100000000 := by unfold pB; rw [if_pos z]
    refine Or.inl ⟨by unfold cA; rw [if_pos z], ?_⟩
    unfold cB
    rw [if_pos e]
  · have e : pB K s p = tl K 1 s p 1 := by unfold pB; rw [if_neg z]
    refine Or.inr ⟨tl K 1 s p 1, h.1, h.2, by unfold cA; rw [if_neg z], ?_⟩
    unfold cB
    rw [if_neg (by omega), e]
theorem MD_Rl {K : Int → Int} {n : Int} (hn : n ≤ 20) (hs : ∀ j, 0 ≤ j → j < n → 0 ≤ K (1 + j) ∧ K (1 + j) ≤ 11) (hTL : ∀ s p, 0 ≤ s → s ≤ 11 → 0 ≤ p → p ≤ 20 → 0 ≤ tl K 1 s p 1 ∧ tl K 1 s p 1 ≤ 99) : ∀ (k : Nat) (a b : Int), b - a ≤ k → 0 ≤ a → a ≤ b → b ≤ n → Rl (b - a) (MD K a b) (MDb K a b) := by
  intro k
  induction k with
  | zero =>
    intro a b hk a0 ab bn
    have e : b = a := by omega
    subst e
    rw [MD_self, MDb_self]
    exact Or.inr ⟨0, 0, by omega, by omega, by omega, by omega, by omega, by omega⟩
  | succ k ih =>
    intro a b hk a0 ab bn
    by_cases e : a = b
    · subst e
      rw [MD_self, MDb_self]
      exact Or.inr ⟨0, 0, by omega, by omega, by omega, by omega, by omega, by omega⟩
    · have hab : a < b := by omega
      have hl : b - a ≤ 20 := by omega
      have hsa := hs a a0 (by omega)
      have hA : Rc (b - a) (mdA K (cA K) 1000000 (MD K) a b) (mdA K (cB (pB K)) 100000000 (MDb K) a b) := by
        unfold mdA
        refine Rc_mnF hl _ _ _ _ Rc_far (fun q q0 q1 => ?_)
        by_cases z : clo K q
        · have hkd := kd_op3 z.1 z.2
          have hsq := hs q (by omega) (by omega)
          rw [if_pos z, if_pos z]
          exact Rc_3 hl (m := q - a) (m2 := b - (q + 1)) (by omega) (cAB hTL (by omega) (by omega) a0 (by omega)) (ih a q (by omega) a0 (by omega) (by omega)) (ih (q + 1) b (by omega) (by omega) (by omega) bn)
        · rw [if_neg z, if_neg z]
          exact Rc_far
      have hO : K (1 + a) < 3 → Rc (b - a) (mdO K (cA K) 1000000 (MD K) a b) (mdO K (cB (pB K)) 100000000 (MDb K) a b) := by
        intro c3
        have hkd := kd_op hsa.1 c3
        unfold mdO
        refine Rc_mnF hl _ _ _ _ ?_ (fun q q0 q1 => ?_)
        · unfold mdP
          refine Rc_mnF hl _ _ _ _ Rc_far (fun q q0 q1 => ?_)
          by_cases z : prd K a q
          · rw [if_pos z, if_pos z]
            exact Rc_2 hl (m := q - (a + 1)) (m2 := b - (q + 1)) (by omega) (ih (a + 1) q (by omega) (by omega) (by omega) (by omega)) (ih (q + 1) b (by omega) (by omega) (by omega) bn)
          · rw [if_neg z, if_neg z]
            exact Rc_far
        · have h3 := Rc_3 hl (m := q - (a + 1)) (m2 := b - q) (by omega) (cAB hTL (s := 3 + kd (K (1 + a))) (p := q) (by omega) (by omega) (by omega) (by omega)) (ih (a + 1) q (by omega) (by omega) (by omega) (by omega)) (ih q b (by omega) (by omega) (by omega) bn)
          rw [Int.add_comm (cA K (3 + kd (K (1 + a))) q), Int.add_comm (cB (pB K) (3 + kd (K (1 + a))) q)] at h3
          exact h3
      rw [MD_eq hab, MDb_eq hab, mdS_def, mdS_def]
      show Rc (b - a) _ _
      by_cases c3 : K (1 + a) < 3
      · rw [if_pos c3, if_pos c3]
        exact Rc.mins hl hA (hO c3)
      · rw [if_neg c3, if_neg c3]
        by_cases c6 : 6 ≤ K (1 + a)
        · rw [if_pos c6, if_pos c6]
          exact Rc.mins hl hA (Rl.rc hl (m := b - (a + 1)) (by omega) (ih (a + 1) b (by omega) (by omega) (by omega) bn))
        · rw [if_neg c6, if_neg c6]
          exact hA
/-- what is told of mending -/
theorem mdR_b {K : Int → Int} (hn : 0 ≤ K 0 ∧ K 0 ≤ 20) (hs : ∀ j, 0 ≤ j → j < K 0 → 0 ≤ K (1 + j) ∧ K (1 + j) ≤ 11) (hTL : ∀ s p, 0 ≤ s → s ≤ 11 → 0 ≤ p → p ≤ 20 → 0 ≤ tl K 1 s p 1 ∧ tl K 1 s p 1 ≤ 99) (w : Int) : mdR K w = if MDb K 0 (K 0) < 100000000 then (if w = 0 then (MDb K 0 (K 0)).tdiv 100 else (MDb K 0 (K 0)).tmod 100) else -1 := by
  have h := MD_Rl hn.2 hs hTL _ 0 (K 0) (Int.self_le_toNat _) (by omega) hn.1 (Int.le_refl _)
  unfold mdR
  rcases h with ⟨e1, e2⟩ | ⟨C, S, c0, c1, s0, s1, e1, e2⟩
  · rw [if_pos e1, if_neg (by omega)]
  · rw [if_neg (by omega), if_pos (show MDb K 0 (K 0) < 100000000 by omega), e1, e2]
    rw [Int.tdiv_eq_ediv_of_nonneg (by omega), Int.tdiv_eq_ediv_of_nonneg (by omega), Int.tmod_eq_emod_of_nonneg (by omega), Int.tmod_eq_emod_of_nonneg (by omega)]
    split <;> omega
