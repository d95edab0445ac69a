/-! PURE: what sums tell, over tokens: value, where it ends, whether broken; none: out of bounds -/
abbrev EV : Type := Option (Int × Int × Int)
/-- not to be looked into -/
def Hd (p : Prop) : Prop := p
theorem Hd.out {p : Prop} (h : Hd p) : p := h
abbrev rgo (v : Int) : Prop := -1000000000 ≤ v ∧ v ≤ 1000000000
def cdA (K : Int → Int) (e k : Int) : Int := if 0 ≤ k ∧ k < e then K (33 + k) else 0
theorem cdA_R {K : Int → Int} {e k : Int} (hC : ∀ k, 0 ≤ k → k < 2800 → 0 ≤ K (33 + k) ∧ K (33 + k) ≤ 400) (he : e ≤ 2800) (h : 0 ≤ k) : 0 ≤ cdA K e k ∧ cdA K e k ≤ 400 := by
  unfold cdA
  split
  · exact hC k h (by omega)
  · omega
def bd (live r b : Int) : Int × Int := ((if (if live = 1 ∧ (1000000000 < r ∨ r < -1000000000) then 1 else b) = 1 then 0 else r), (if live = 1 ∧ (1000000000 < r ∨ r < -1000000000) then 1 else b))
def tC (op live acc w b : Int) : Int × Int := bd live (if op = 142 then acc * (if op ≠ 142 ∧ w = 0 then 1 else w) else if op = 147 then acc.tdiv (if op ≠ 142 ∧ w = 0 then 1 else w) else acc.tmod (if op ≠ 142 ∧ w = 0 then 1 else w)) (if op ≠ 142 ∧ w = 0 then (if b = 1 ∨ live = 1 then 1 else 0) else b)
def sC (op live acc w b : Int) : Int × Int := bd live (if op = 143 then acc + w else acc - w) b
def pE (C V : Int → Int) (wv : Int → Int → Int) (io : Int) (S : Int → Int → Int → EV) (live go br : Int) : EV :=
  if go < 0 ∨ 2800 < go then none
  else if C go = 191 then (match S live (go + 1) br with
    | none => none
    | some q => if (0 ≤ q.2.1 ∧ q.2.1 ≤ 2800) ∧ rgo q.1 ∧ (q.2.2 = 0 ∨ q.2.2 = 1) then some (q.1, q.2.1 + 1, q.2.2) else none)
  else if io = 1 ∧ (C go = 14 ∨ C go = 20) then (if ¬ (rgo (V (go + 1)) ∧ go ≤ 2798) then none else if live = 0 ∨ br = 1 then some (0, go + 2, br) else if rgo (wv (C go) (V (go + 1))) then some (wv (C go) (V (go + 1)), go + 2, br) else none)
  else if live = 0 ∨ br = 1 then some (0, go + 1, br)
  else if C go = 50 then (if rgo (V go) then some (V go, go + 1, br) else none)
  else if (io = 1 ∨ (9 ≤ C go ∧ C go ≤ 16)) ∧ rgo (wv (C go) 0) then some (wv (C go) 0, go + 1, br)
  else none
def tL (C : Int → Int) (P : Int → Int → Int → EV) (live : Int) : Nat → Int → Int → Int → EV
  | 0, _, _, _ => none
  | k + 1, acc, go, br =>
    if go < 0 ∨ 2800 < go then none
    else if C go = 142 ∨ C go = 147 ∨ C go = 137 then (match P live (go + 1) br with
      | none => none
      | some q => if rgo q.1 ∧ (q.2.2 = 0 ∨ q.2.2 = 1) ∧ rgo (tC (C go) live acc q.1 q.2.2).1 then tL C P live k (tC (C go) live acc q.1 q.2.2).1 q.2.1 (tC (C go) live acc q.1 q.2.2).2 else none)
    else some (acc, go, br)
def sL (C : Int → Int) (P : Int → Int → Int → EV) (live : Int) : Nat → Int → Int → Int → EV
  | 0, _, _, _ => none
  | k + 1, acc, go, br =>
    if go < 0 ∨ 2800 < go then none
    else if C go = 143 ∨ C go = 145 then (match P live (go + 1) br with
      | none => none
      | some q => if rgo q.1 ∧ (q.2.2 = 0 ∨ q.2.2 = 1) ∧ rgo (sC (C go) live acc q.1 q.2.2).1 then sL C P live k (sC (C go) live acc q.1 q.2.2).1 q.2.1 (sC (C go) live acc q.1 q.2.2).2 else none)
    else some (acc, go, br)
def tE (C : Int → Int) (P : Int → Int → Int → EV) (live go br : Int) : EV := match P live go br with
  | none => none
  | some q => if rgo q.1 ∧ (q.2.2 = 0 ∨ q.2.2 = 1) then tL C P live 400 q.1 q.2.1 q.2.2 else none
def sV (C : Int → Int) (T : Int → Int → Int → EV) (live go br : Int) : EV := match T live go br with
  | none => none
  | some q => if rgo q.1 ∧ (q.2.2 = 0 ∨ q.2.2 = 1) then sL C T live 400 q.1 q.2.1 q.2.2 else none
def sE (C V : Int → Int) (wv : Int → Int → Int) (io : Int) : Nat → Int → Int → Int → EV
  | 0 => fun _ _ _ => none
  | m + 1 => sV C (tE C (pE C V wv io (sE C V wv io m)))
theorem tL_inv {C : Int → Int} {P : Int → Int → Int → EV} {live acc go br v g' b' : Int} {k : Nat} (h : tL C P live k acc go br = some (v, g', b')) :
    ∃ j, k = j + 1 ∧ 0 ≤ go ∧ go ≤ 2800 ∧ Hd (((C go = 142 ∨ C go = 147 ∨ C go = 137) ∧ ∃ w g2 b2, P live (go + 1) br = some (w, g2, b2) ∧ rgo w ∧ (b2 = 0 ∨ b2 = 1) ∧ rgo (tC (C go) live acc w b2).1 ∧ tL C P live j (tC (C go) live acc w b2).1 g2 (tC (C go) live acc w b2).2 = some (v, g', b')) ∨ (¬ (C go = 142 ∨ C go = 147 ∨ C go = 137) ∧ v = acc ∧ g' = go ∧ b' = br)) := by
  cases k with
  | zero => cases h
  | succ j =>
    refine ⟨j, rfl, ?_⟩
    unfold tL at h
    split at h
    · cases h
    · next hg =>
      refine ⟨by omega, by omega, ?_⟩
      split at h
      · next hop =>
        refine Or.inl ⟨hop, ?_⟩
        split at h
        · cases h
        · next q hq =>
          split at h
          · next hc => exact ⟨q.1, q.2.1, q.2.2, hq, hc.1, hc.2.1, hc.2.2, h⟩
          · cases h
      · next hop =>
        cases h
        exact Or.inr ⟨hop, rfl, rfl, rfl⟩
theorem sL_inv {C : Int → Int} {P : Int → Int → Int → EV} {live acc go br v g' b' : Int} {k : Nat} (h : sL C P live k acc go br = some (v, g', b')) :
    ∃ j, k = j + 1 ∧ 0 ≤ go ∧ go ≤ 2800 ∧ Hd (((C go = 143 ∨ C go = 145) ∧ ∃ w g2 b2, P live (go + 1) br = some (w, g2, b2) ∧ rgo w ∧ (b2 = 0 ∨ b2 = 1) ∧ rgo (sC (C go) live acc w b2).1 ∧ sL C P live j (sC (C go) live acc w b2).1 g2 (sC (C go) live acc w b2).2 = some (v, g', b')) ∨ (¬ (C go = 143 ∨ C go = 145) ∧ v = acc ∧ g' = go ∧ b' = br)) := by
  cases k with
  | zero => cases h
  | succ j =>
    refine ⟨j, rfl, ?_⟩
    unfold sL at h
    split at h
    · cases h
    · next hg =>
      refine ⟨by omega, by omega, ?_⟩
      split at h
      · next hop =>
        refine Or.inl ⟨hop, ?_⟩
        split at h
        · cases h
        · next q hq =>
          split at h
          · next hc => exact ⟨q.1, q.2.1, q.2.2, hq, hc.1, hc.2.1, hc.2.2, h⟩
          · cases h
      · next hop =>
        cases h
        exact Or.inr ⟨hop, rfl, rfl, rfl⟩
theorem tE_inv {C : Int → Int} {P : Int → Int → Int → EV} {live go br : Int} {r : Int × Int × Int} (h : tE C P live go br = some r) : ∃ w g2 b2, P live go br = some (w, g2, b2) ∧ rgo w ∧ (b2 = 0 ∨ b2 = 1) ∧ tL C P live 400 w g2 b2 = some r := by
  unfold tE at h
  split at h
  · cases h
  · next q hq =>
    split at h
    · next hc => exact ⟨q.1, q.2.1, q.2.2, hq, hc.1, hc.2, h⟩
    · cases h
theorem sV_inv {C : Int → Int} {P : Int → Int → Int → EV} {live go br : Int} {r : Int × Int × Int} (h : sV C P live go br = some r) : ∃ w g2 b2, P live go br = some (w, g2, b2) ∧ rgo w ∧ (b2 = 0 ∨ b2 = 1) ∧ sL C P live 400 w g2 b2 = some r := by
  unfold sV at h
  split at h
  · cases h
  · next q hq =>
    split at h
    · next hc => exact ⟨q.1, q.2.1, q.2.2, hq, hc.1, hc.2, h⟩
    · cases h
theorem bd_b {live r b : Int} (hb : b = 0 ∨ b = 1) : (bd live r b).2 = 0 ∨ (bd live r b).2 = 1 := by
  unfold bd
  show (if _ then (1 : Int) else b) = 0 ∨ (if _ then (1 : Int) else b) = 1
  split
  · exact Or.inr rfl
  · exact hb
theorem tC_b {op live acc w b : Int} (hb : b = 0 ∨ b = 1) : (tC op live acc w b).2 = 0 ∨ (tC op live acc w b).2 = 1 := by
  unfold tC
  apply bd_b
  split
  · split
    · exact Or.inr rfl
    · exact Or.inl rfl
  · exact hb
theorem sC_b {op live acc w b : Int} (hb : b = 0 ∨ b = 1) : (sC op live acc w b).2 = 0 ∨ (sC op live acc w b).2 = 1 := bd_b hb
theorem tC_mul {op live acc w b : Int} (h : op = 142) : tC op live acc w b = bd live (acc * w) b := by
  unfold tC
  rw [if_pos h, if_neg (by omega), if_neg (by omega)]
theorem tC_div {op live acc w b : Int} (h : op = 147) (hw : w ≠ 0) : tC op live acc w b = bd live (acc.tdiv w) b := by
  unfold tC
  rw [if_neg (by omega), if_pos h, if_neg (by omega), if_neg (by omega)]
theorem tC_rem {op live acc w b : Int} (h : op ≠ 142) (h2 : op ≠ 147) (hw : w ≠ 0) : tC op live acc w b = bd live (acc.tmod w) b := by
  unfold tC
  rw [if_neg h, if_neg h2, if_neg (by omega), if_neg (by omega)]
theorem tC_div1 {op live acc w b : Int} (h : op = 147) (hw : w = 0) (hl : b = 1 ∨ live = 1) : tC op live acc w b = bd live (acc.tdiv 1) 1 := by
  unfold tC
  rw [if_neg (by omega), if_pos h, if_pos (by omega), if_pos (by omega), if_pos hl]
theorem tC_div0 {op live acc w b : Int} (h : op = 147) (hw : w = 0) (hl : ¬ (b = 1 ∨ live = 1)) : tC op live acc w b = bd live (acc.tdiv 1) 0 := by
  unfold tC
  rw [if_neg (by omega), if_pos h, if_pos (by omega), if_pos (by omega), if_neg hl]
theorem tC_rem1 {op live acc w b : Int} (h : op ≠ 142) (h2 : op ≠ 147) (hw : w = 0) (hl : b = 1 ∨ live = 1) : tC op live acc w b = bd live (acc.tmod 1) 1 := by
  unfold tC
  rw [if_neg h, if_neg h2, if_pos (by omega), if_pos (by omega), if_pos hl]
theorem tC_rem0 {op live acc w b : Int} (h : op ≠ 142) (h2 : op ≠ 147) (hw : w = 0) (hl : ¬ (b = 1 ∨ live = 1)) : tC op live acc w b = bd live (acc.tmod 1) 0 := by
  unfold tC
  rw [if_neg h, if_neg h2, if_pos (by omega), if_pos (by omega), if_neg hl]
theorem sC_add {op live acc w b : Int} (h : op = 143) : sC op live acc w b = bd live (acc + w) b := by
  unfold sC
  rw [if_pos h]
theorem sC_sub {op live acc w b : Int} (h : op ≠ 143) : sC op live acc w b = bd live (acc - w) b := by
  unfold sC
  rw [if_neg h]
theorem rg_mul {a b : Int} (ha : rgo a) (hb : rgo b) : R64 (a * b) := by
  have h1 : a.natAbs ≤ 1000000000 := by omega
  have h2 : b.natAbs ≤ 1000000000 := by omega
  have h3 : (a * b).natAbs ≤ 1000000000 * 1000000000 := by rw [Int.natAbs_mul]; exact Nat.mul_le_mul h1 h2
  omega
theorem rg_div {a b : Int} (ha : rgo a) : rgo (a.tdiv b) := by
  have h1 : a.natAbs ≤ 1000000000 := by omega
  have h3 : (a.tdiv b).natAbs ≤ 1000000000 := by rw [Int.natAbs_tdiv]; exact Nat.le_trans (Nat.div_le_self _ _) h1
  omega
theorem rg_mod {a b : Int} (ha : rgo a) : rgo (a.tmod b) := by
  have h1 : a.natAbs ≤ 1000000000 := by omega
  have h3 : (a.tmod b).natAbs ≤ 1000000000 := by rw [Int.natAbs_tmod]; exact Nat.le_trans (Nat.mod_le _ _) h1
  omega
/-- what a word of orders tells, what any word tells -/
def ow (K : Int → Int) (dn lt c k : Int) : Int := if c = 14 then (if 0 ≤ k ∧ k < K 0 then K (1 + k) else -1) else if c = 20 then (if 0 ≤ k ∧ k < K 0 then dp K k else -1) else if c = 15 then K 0 else if c = 16 then K 21 else if c = 17 then dn else if c = 18 then lt else lo K 0 (K 0)
def wvM (io : Int) (x26 K : Int → Int) (dn lt c k : Int) : Int := if io = 1 then ow K dn lt c k else x26 (c - 9)
def vlA (K : Int → Int) (k : Int) : Int := if 0 ≤ k ∧ k < 2800 then K (2833 + k) else 0
theorem vlA_at {K : Int → Int} {k : Int} (h : 0 ≤ k) (h2 : k < 2800) : vlA K k = K (2833 + k) := if_pos ⟨h, h2⟩
theorem pE_inv {C V : Int → Int} {wv : Int → Int → Int} {io live go br v g' b' : Int} {S : Int → Int → Int → EV} (h : pE C V wv io S live go br = some (v, g', b')) : 0 ≤ go ∧ go ≤ 2800 ∧
    Hd (C go = 191 → ∃ w g2 b2, S live (go + 1) br = some (w, g2, b2) ∧ (0 ≤ g2 ∧ g2 ≤ 2800) ∧ rgo w ∧ (b2 = 0 ∨ b2 = 1) ∧ v = w ∧ g' = g2 + 1 ∧ b' = b2) ∧
    Hd (C go ≠ 191 → (io = 1 ∧ (C go = 14 ∨ C go = 20)) → rgo (V (go + 1)) ∧ go ≤ 2798 ∧ g' = go + 2 ∧ b' = br ∧ ((live = 0 ∨ br = 1) → v = 0) ∧ (¬ (live = 0 ∨ br = 1) → rgo v ∧ v = wv (C go) (V (go + 1)))) ∧
    Hd (C go ≠ 191 → ¬ (io = 1 ∧ (C go = 14 ∨ C go = 20)) → g' = go + 1 ∧ b' = br ∧ ((live = 0 ∨ br = 1) → v = 0) ∧ (¬ (live = 0 ∨ br = 1) → C go = 50 → rgo v ∧ v = V go) ∧ (¬ (live = 0 ∨ br = 1) → C go ≠ 50 → (io = 1 ∨ (9 ≤ C go ∧ C go ≤ 16)) ∧ rgo v ∧ v = wv (C go) 0)) := by
  unfold pE at h
  by_cases c0 : go < 0 ∨ 2800 < go
  · rw [if_pos c0] at h; cases h
  rw [if_neg c0] at h
  refine ⟨by omega, by omega, ?_, ?_, ?_⟩
  · intro c1
    rw [if_pos c1] at h
    split at h
    · cases h
    · next q hq =>
      split at h
      · next hc =>
        cases h
        exact ⟨q.1, q.2.1, q.2.2, hq, hc.1, hc.2.1, hc.2.2, rfl, rfl, rfl⟩
      · cases h
  · intro c1 c2
    rw [if_neg c1, if_pos c2] at h
    split at h
    · cases h
    · next hr =>
      have hr2 : rgo (V (go + 1)) := by omega
      have hr3 : go ≤ 2798 := by omega
      by_cases c3 : live = 0 ∨ br = 1
      · rw [if_pos c3] at h
        cases h
        exact ⟨hr2, hr3, rfl, rfl, fun _ => rfl, fun q => absurd c3 q⟩
      · rw [if_neg c3] at h
        split at h
        · next hw =>
          cases h
          exact ⟨hr2, hr3, rfl, rfl, fun q => absurd q c3, fun _ => ⟨hw, rfl⟩⟩
        · cases h
  · intro c1 c2
    rw [if_neg c1, if_neg c2] at h
    by_cases c3 : live = 0 ∨ br = 1
    · rw [if_pos c3] at h
      cases h
      exact ⟨rfl, rfl, fun _ => rfl, fun q => absurd c3 q, fun q => absurd c3 q⟩
    · rw [if_neg c3] at h
      by_cases c4 : C go = 50
      · rw [if_pos c4] at h
        split at h
        · next hv =>
          cases h
          exact ⟨rfl, rfl, fun q => absurd q c3, fun _ _ => ⟨hv, rfl⟩, fun _ q => absurd c4 q⟩
        · cases h
      · rw [if_neg c4] at h
        split at h
        · next hv =>
          cases h
          exact ⟨rfl, rfl, fun q => absurd q c3, fun _ q => absurd q c4, fun _ _ => ⟨hv.1, hv.2, rfl⟩⟩
        · cases h
