/-! PURE: what tests tell, over tokens -/
abbrev b01 (b : Int) : Prop := b = 0 ∨ b = 1
def poE (C : Int → Int) (S T : Int → Int → Int → EV) (live go br : Int) : EV :=
  if go < 0 ∨ 2800 < go then none
  else if C go = 140 then (match T live (go + 1) br with
    | none => none
    | some q => if (0 ≤ q.2.1 ∧ q.2.1 ≤ 2800) ∧ b01 q.1 ∧ b01 q.2.2 then some (q.1, q.2.1 + 1, q.2.2) else none)
  else (match S live go br with
    | none => none
    | some a => if (0 ≤ a.2.1 ∧ a.2.1 ≤ 2800) ∧ rgo a.1 ∧ b01 a.2.2 then (match S live (a.2.1 + 1) a.2.2 with
      | none => none
      | some b => if rgo b.1 ∧ b01 b.2.2 then some ((if live = 1 ∧ b.2.2 = 0 ∧ ((C a.2.1 = 160 ∧ a.1 < b.1) ∨ (C a.2.1 ≠ 160 ∧ C a.2.1 = 162 ∧ b.1 < a.1) ∨ (C a.2.1 ≠ 160 ∧ C a.2.1 ≠ 162 ∧ a.1 = b.1)) then 1 else 0), b.2.1, b.2.2) else none) else none)
def plL (C : Int → Int) (P : Int → Int → Int → EV) (live br : Int) : Nat → Int → Int → EV
  | 0, _, _ => none
  | k + 1, neg, go =>
    if go < 0 ∨ 2800 < go then none
    else if C go = 8 then plL C P live br k (1 - neg) (go + 1)
    else (match P live go br with
      | none => none
      | some q => if b01 q.1 ∧ b01 q.2.2 then some ((if q.1 = neg then 0 else 1), q.2.1, q.2.2) else none)
def plV (C : Int → Int) (P : Int → Int → Int → EV) (live go br : Int) : EV := plL C P live br 400 0 go
def boL (C : Int → Int) (P : Int → Int → Int → EV) (live : Int) : Nat → Int → Int → Int → EV
  | 0, _, _, _ => none
  | k + 1, v, go, br =>
    if go < 0 ∨ 2800 < go then none
    else if C go = 7 then (match P (if live = 1 ∧ v = 1 then 1 else 0) (go + 1) br with
      | none => none
      | some q => if b01 q.1 ∧ b01 q.2.2 then boL C P live k (if v = 1 ∧ q.1 = 1 then 1 else 0) q.2.1 q.2.2 else none)
    else some (v, go, br)
def teL (C : Int → Int) (P : Int → Int → Int → EV) (live : Int) : Nat → Int → Int → Int → EV
  | 0, _, _, _ => none
  | k + 1, v, go, br =>
    if go < 0 ∨ 2800 < go then none
    else if C go = 6 then (match P (if live = 1 ∧ v = 0 then 1 else 0) (go + 1) br with
      | none => none
      | some q => if b01 q.1 ∧ b01 q.2.2 then teL C P live k (if v = 1 ∨ q.1 = 1 then 1 else 0) q.2.1 q.2.2 else none)
    else some (v, go, br)
def boV (C : Int → Int) (P : Int → Int → Int → EV) (live go br : Int) : EV := match P live go br with
  | none => none
  | some q => if b01 q.1 ∧ b01 q.2.2 then boL C P live 400 q.1 q.2.1 q.2.2 else none
def teV (C : Int → Int) (P : Int → Int → Int → EV) (live go br : Int) : EV := match P live go br with
  | none => none
  | some q => if b01 q.1 ∧ b01 q.2.2 then teL C P live 400 q.1 q.2.1 q.2.2 else none
def tsE (C : Int → Int) (S : Int → Int → Int → EV) : Nat → Int → Int → Int → EV
  | 0 => fun _ _ _ => none
  | m + 1 => teV C (boV C (plV C (poE C S (tsE C S m))))
theorem poE_inv {C : Int → Int} {S T : Int → Int → Int → EV} {live go br v g' b' : Int} (h : poE C S T live go br = some (v, g', b')) : 0 ≤ go ∧ go ≤ 2800 ∧
    Hd (C go = 140 → ∃ w g2 b2, T live (go + 1) br = some (w, g2, b2) ∧ (0 ≤ g2 ∧ g2 ≤ 2800) ∧ b01 w ∧ b01 b2 ∧ v = w ∧ g' = g2 + 1 ∧ b' = b2) ∧
    Hd (C go ≠ 140 → ∃ a1 a2 a3 c1 c2 c3, S live go br = some (a1, a2, a3) ∧ (0 ≤ a2 ∧ a2 ≤ 2800) ∧ rgo a1 ∧ b01 a3 ∧ S live (a2 + 1) a3 = some (c1, c2, c3) ∧ rgo c1 ∧ b01 c3 ∧ v = (if live = 1 ∧ c3 = 0 ∧ ((C a2 = 160 ∧ a1 < c1) ∨ (C a2 ≠ 160 ∧ C a2 = 162 ∧ c1 < a1) ∨ (C a2 ≠ 160 ∧ C a2 ≠ 162 ∧ a1 = c1)) then 1 else 0) ∧ g' = c2 ∧ b' = c3) := by
  unfold poE at h
  by_cases c0 : go < 0 ∨ 2800 < go
  · rw [if_pos c0] at h; cases h
  rw [if_neg c0] at h
  refine ⟨by omega, by omega, fun c1 => ?_, fun c1 => ?_⟩
  · rw [if_pos c1] at h
    split at h
    · cases h
    · next q hq =>
      split at h
      · next hc =>
        cases h
        exact ⟨q.1, q.2.1, q.2.2, hq, hc.1, hc.2.1, hc.2.2, rfl, rfl, rfl⟩
      · cases h
  · rw [if_neg c1] at h
    split at h
    · cases h
    · next a ha =>
      split at h
      · next hc =>
        split at h
        · cases h
        · next b hb =>
          split at h
          · next hd =>
            cases h
            exact ⟨a.1, a.2.1, a.2.2, b.1, b.2.1, b.2.2, ha, hc.1, hc.2.1, hc.2.2, hb, hd.1, hd.2, rfl, rfl, rfl⟩
          · cases h
      · cases h
theorem plL_inv {C : Int → Int} {P : Int → Int → Int → EV} {live br neg go v g' b' : Int} {k : Nat} (h : plL C P live br k neg go = some (v, g', b')) : ∃ j, k = j + 1 ∧ 0 ≤ go ∧ go ≤ 2800 ∧
    Hd ((C go = 8 ∧ plL C P live br j (1 - neg) (go + 1) = some (v, g', b')) ∨ (¬ C go = 8 ∧ ∃ w g2 b2, P live go br = some (w, g2, b2) ∧ b01 w ∧ b01 b2 ∧ v = (if w = neg then 0 else 1) ∧ g' = g2 ∧ b' = b2)) := by
  cases k with
  | zero => cases h
  | succ j =>
    refine ⟨j, rfl, ?_⟩
    unfold plL at h
    split at h
    · cases h
    · next hg =>
      refine ⟨by omega, by omega, ?_⟩
      split at h
      · next hop => exact Or.inl ⟨hop, h⟩
      · next hop =>
        refine Or.inr ⟨hop, ?_⟩
        split at h
        · cases h
        · next q hq =>
          split at h
          · next hc =>
            cases h
            exact ⟨q.1, q.2.1, q.2.2, hq, hc.1, hc.2, rfl, rfl, rfl⟩
          · cases h
theorem boL_inv {C : Int → Int} {P : Int → Int → Int → EV} {live x go br v g' b' : Int} {k : Nat} (h : boL C P live k x go br = some (v, g', b')) : ∃ j, k = j + 1 ∧ 0 ≤ go ∧ go ≤ 2800 ∧
    Hd ((C go = 7 ∧ ∃ w g2 b2, P (if live = 1 ∧ x = 1 then 1 else 0) (go + 1) br = some (w, g2, b2) ∧ b01 w ∧ b01 b2 ∧ boL C P live j (if x = 1 ∧ w = 1 then 1 else 0) g2 b2 = some (v, g', b')) ∨ (¬ C go = 7 ∧ v = x ∧ g' = go ∧ b' = br)) := by
  cases k with
  | zero => cases h
  | succ j =>
    refine ⟨j, rfl, ?_⟩
    unfold boL at h
    split at h
    · cases h
    · next hg =>
      refine ⟨by omega, by omega, ?_⟩
      split at h
      · next hop =>
        refine Or.inl ⟨hop, ?_⟩
        split at h
        · cases h
        · next q hq =>
          split at h
          · next hc => exact ⟨q.1, q.2.1, q.2.2, hq, hc.1, hc.2, h⟩
          · cases h
      · next hop =>
        cases h
        exact Or.inr ⟨hop, rfl, rfl, rfl⟩
theorem teL_inv {C : Int → Int} {P : Int → Int → Int → EV} {live x go br v g' b' : Int} {k : Nat} (h : teL C P live k x go br = some (v, g', b')) : ∃ j, k = j + 1 ∧ 0 ≤ go ∧ go ≤ 2800 ∧
    Hd ((C go = 6 ∧ ∃ w g2 b2, P (if live = 1 ∧ x = 0 then 1 else 0) (go + 1) br = some (w, g2, b2) ∧ b01 w ∧ b01 b2 ∧ teL C P live j (if x = 1 ∨ w = 1 then 1 else 0) g2 b2 = some (v, g', b')) ∨ (¬ C go = 6 ∧ v = x ∧ g' = go ∧ b' = br)) := by
  cases k with
  | zero => cases h
  | succ j =>
    refine ⟨j, rfl, ?_⟩
    unfold teL at h
    split at h
    · cases h
    · next hg =>
      refine ⟨by omega, by omega, ?_⟩
      split at h
      · next hop =>
        refine Or.inl ⟨hop, ?_⟩
        split at h
        · cases h
        · next q hq =>
          split at h
          · next hc => exact ⟨q.1, q.2.1, q.2.2, hq, hc.1, hc.2, h⟩
          · cases h
      · next hop =>
        cases h
        exact Or.inr ⟨hop, rfl, rfl, rfl⟩
theorem boV_inv {C : Int → Int} {P : Int → Int → Int → EV} {live go br : Int} {r : Int × Int × Int} (h : boV C P live go br = some r) : ∃ w g2 b2, P live go br = some (w, g2, b2) ∧ b01 w ∧ b01 b2 ∧ boL C P live 400 w g2 b2 = some r := by
  unfold boV at h
  split at h
  · cases h
  · next q hq =>
    split at h
    · next hc => exact ⟨q.1, q.2.1, q.2.2, hq, hc.1, hc.2, h⟩
    · cases h
theorem teV_inv {C : Int → Int} {P : Int → Int → Int → EV} {live go br : Int} {r : Int × Int × Int} (h : teV C P live go br = some r) : ∃ w g2 b2, P live go br = some (w, g2, b2) ∧ b01 w ∧ b01 b2 ∧ teL C P live 400 w g2 b2 = some r := by
  unfold teV at h
  split at h
  · cases h
  · next q hq =>
    split at h
    · next hc => exact ⟨q.1, q.2.1, q.2.2, hq, hc.1, hc.2, h⟩
    · cases h
theorem ite01 {c : Prop} [Decidable c] : b01 (if c then 1 else 0) := by
  split
  · exact Or.inr rfl
  · exact Or.inl rfl
theorem ite10 {c : Prop} [Decidable c] : b01 (if c then 0 else 1) := by
  split
  · exact Or.inl rfl
  · exact Or.inr rfl
theorem z_zretE {g : Bool} {y : xY} {d pc : Nat} {L : List (Option Value)} {mem : List xM} {bc bs : Nat} {Q : List xM → Option Value → Prop} {a v : Int} (hr : y.2.2.2 = some .boolean) (ha : a = 0 ∨ a = 1) (hd : decode y.2.1 pc = .ok (.ireturn, 1)) (e : a = v) (hq : Q mem (some (.int (ii v)))) : SJ g y d pc L [.int (ii a)] mem bc bs Q := z_zreturn hr ha hd (e ▸ hq)
