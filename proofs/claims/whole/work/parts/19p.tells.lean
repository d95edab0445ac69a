/-! PURE: what the last clause with a head tells -/
def tn (is head hv b2 b1 v told : Int) : Int := if is = head ∧ hv = 1 ∧ b2 = 0 ∧ b1 = 0 then (if v < 0 then 0 else if 99 < v then 99 else v) else told
def tlL (C : Int → Int) (S T : Int → Int → Int → EV) (e head : Int) : Nat → Int → Int → Option Int
  | 0, _, _ => none
  | k + 1, told, go =>
    if e ≤ go then some told
    else if go < 0 ∨ 2800 < go then none
    else (match (if C go = 4 then some (1, go + 1, 0) else S 1 (go + 1) 0 : EV) with
      | none => none
      | some a => if (0 ≤ a.2.1 ∧ a.2.1 ≤ 2800) ∧ rgo a.1 ∧ b01 a.2.2 then (if C a.2.1 = 5 then (match T 1 (a.2.1 + 1) 0 with
          | none => none
          | some t => if (0 ≤ t.2.1 ∧ t.2.1 ≤ 2800) ∧ b01 t.1 ∧ b01 t.2.2 then tlL C S T e head k (tn (C go) head t.1 t.2.2 a.2.2 a.1 told) (t.2.1 + 1) else none)
        else tlL C S T e head k (tn (C go) head 1 0 a.2.2 a.1 told) (a.2.1 + 1)) else none)
theorem tlL_inv {C : Int → Int} {S T : Int → Int → Int → EV} {e head told go r : Int} {k : Nat} (h : tlL C S T e head k told go = some r) : ∃ j, k = j + 1 ∧
    Hd ((e ≤ go ∧ r = told) ∨ (¬ e ≤ go ∧ (0 ≤ go ∧ go ≤ 2800) ∧ ∃ vv g1 b1, (C go = 4 → vv = 1 ∧ g1 = go + 1 ∧ b1 = 0) ∧ (C go ≠ 4 → S 1 (go + 1) 0 = some (vv, g1, b1)) ∧ (0 ≤ g1 ∧ g1 ≤ 2800) ∧ rgo vv ∧ b01 b1 ∧
      Hd ((C g1 = 5 ∧ ∃ tv g2 b2, T 1 (g1 + 1) 0 = some (tv, g2, b2) ∧ (0 ≤ g2 ∧ g2 ≤ 2800) ∧ b01 tv ∧ b01 b2 ∧ tlL C S T e head j (tn (C go) head tv b2 b1 vv told) (g2 + 1) = some r) ∨ (¬ C g1 = 5 ∧ tlL C S T e head j (tn (C go) head 1 0 b1 vv told) (g1 + 1) = some r)))) := by
  cases k with
  | zero => cases h
  | succ j =>
    refine ⟨j, rfl, ?_⟩
    unfold tlL at h
    by_cases c0 : e ≤ go
    · rw [if_pos c0] at h
      cases h
      exact Or.inl ⟨c0, rfl⟩
    rw [if_neg c0] at h
    by_cases c1 : go < 0 ∨ 2800 < go
    · rw [if_pos c1] at h; cases h
    rw [if_neg c1] at h
    refine Or.inr ⟨c0, by omega, ?_⟩
    split at h
    · cases h
    · next a ha =>
      split at h
      · next hc =>
        refine ⟨a.1, a.2.1, a.2.2, fun c4 => ?_, fun c4 => ?_, hc.1, hc.2.1, hc.2.2, ?_⟩
        · rw [if_pos c4] at ha
          cases ha
          exact ⟨rfl, rfl, rfl⟩
        · rw [if_neg c4] at ha
          exact ha
        · split at h
          · next c5 =>
            refine Or.inl ⟨c5, ?_⟩
            split at h
            · cases h
            · next t ht =>
              split at h
              · next hd => exact ⟨t.1, t.2.1, t.2.2, ht, hd.1, hd.2.1, hd.2.2, h⟩
              · cases h
          · next c5 => exact Or.inr ⟨c5, h⟩
      · cases h
/-- what is asked of a sign and a place -/
def aqU (x K : Int → Int) (s p : Int) : Int → Int := up (up (up (up (up (up (up (up x 0 (kd s)) 1 (if s < 3 then 1 else 0)) 2 (if 6 ≤ s then s - 6 else -1)) 3 p) 4 (K 23)) 5 s) 6 (K 0)) 7 (K 21)
def awv (K : Int → Int) (s p c : Int) : Int := if c = 9 then kd s else if c = 10 then (if s < 3 then 1 else 0) else if c = 11 then (if 6 ≤ s then s - 6 else -1) else if c = 12 then p else if c = 13 then K 23 else if c = 14 then s else if c = 15 then K 0 else K 21
theorem aqU_awv {x K : Int → Int} {s p c : Int} (h1 : 9 ≤ c) (h2 : c ≤ 16) : aqU x K s p (c - 9) = awv K s p c := by
  unfold aqU awv
  have hc : c = 9 ∨ c = 10 ∨ c = 11 ∨ c = 12 ∨ c = 13 ∨ c = 14 ∨ c = 15 ∨ c = 16 := by omega
  rcases hc with rfl | rfl | rfl | rfl | rfl | rfl | rfl | rfl <;> simp [up]
theorem pE_congr {C V : Int → Int} {wv wv' : Int → Int → Int} {S : Int → Int → Int → EV} (h : ∀ c, 9 ≤ c → c ≤ 16 → wv c 0 = wv' c 0) : pE C V wv 0 S = pE C V wv' 0 S := by
  funext live go br
  unfold pE
  have n1 : ¬ ((0 : Int) = 1 ∧ (C go = 14 ∨ C go = 20)) := by omega
  by_cases c0 : go < 0 ∨ 2800 < go
  · simp only [if_pos c0]
  by_cases c1 : C go = 191
  · simp only [if_neg c0, if_pos c1]
  by_cases c2 : live = 0 ∨ br = 1
  · simp only [if_neg c0, if_neg c1, if_neg n1, if_pos c2]
  by_cases c3 : C go = 50
  · simp only [if_neg c0, if_neg c1, if_neg n1, if_neg c2, if_pos c3]
  simp only [if_neg c0, if_neg c1, if_neg n1, if_neg c2, if_neg c3]
  by_cases c4 : 9 ≤ C go ∧ C go ≤ 16
  · rw [h _ c4.1 c4.2]
  · have n2 : ¬ (((0 : Int) = 1 ∨ (9 ≤ C go ∧ C go ≤ 16)) ∧ rgo (wv (C go) 0)) := fun q => by omega
    have n3 : ¬ (((0 : Int) = 1 ∨ (9 ≤ C go ∧ C go ≤ 16)) ∧ rgo (wv' (C go) 0)) := fun q => by omega
    rw [if_neg n2, if_neg n3]
theorem sE_congr {C V : Int → Int} {wv wv' : Int → Int → Int} (h : ∀ c, 9 ≤ c → c ≤ 16 → wv c 0 = wv' c 0) : ∀ m : Nat, sE C V wv 0 m = sE C V wv' 0 m
  | 0 => rfl
  | m + 1 => by
    unfold sE
    rw [sE_congr h m, pE_congr h]
/-- the law in force: where its tokens end, its sums, its tests, what it tells -/
def lwE (K : Int → Int) : Int := 400 * K 25 + K (26 + K 25)
def lwS (K : Int → Int) (s p : Int) : Int → Int → Int → EV := sE (cdA K (lwE K)) (vlA K) (fun c _ => awv K s p c) 0 9
def TL (K : Int → Int) (head s p wo : Int) : Option Int := if K 25 = -1 then some wo else tlL (cdA K (lwE K)) (lwS K s p) (tsE (cdA K (lwE K)) (lwS K s p) 9) (lwE K) head 20 wo (400 * K 25)
theorem tn_R {is head hv b2 b1 v told : Int} (h : 0 ≤ told ∧ told ≤ 99) : 0 ≤ tn is head hv b2 b1 v told ∧ tn is head hv b2 b1 v told ≤ 99 := by
  unfold tn
  split
  · split
    · omega
    · split <;> omega
  · exact h
theorem tlL_R {C : Int → Int} {S T : Int → Int → Int → EV} {e head : Int} : ∀ (k : Nat) (told go r : Int), tlL C S T e head k told go = some r → 0 ≤ told ∧ told ≤ 99 → 0 ≤ r ∧ r ≤ 99
  | 0, told, go, r, h, _ => by cases h
  | k + 1, told, go, r, h, ht => by
    obtain ⟨j, hj, hc⟩ := tlL_inv h
    cases hj
    rcases Hd.out hc with ⟨-, rfl⟩ | ⟨-, -, vv, g1, b1, -, -, -, -, -, hc2⟩
    · exact ht
    · rcases Hd.out hc2 with ⟨-, tv, g2, b2, -, -, -, -, h3⟩ | ⟨-, h3⟩
      · exact tlL_R k _ _ r h3 (tn_R ht)
      · exact tlL_R k _ _ r h3 (tn_R ht)
theorem TL_R {K : Int → Int} {head s p wo r : Int} (h : TL K head s p wo = some r) (hw : 0 ≤ wo ∧ wo ≤ 99) : 0 ≤ r ∧ r ≤ 99 := by
  unfold TL at h
  split at h
  · cases h
    exact hw
  · exact tlL_R _ _ _ _ h hw
