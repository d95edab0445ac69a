/-! PURE: what holds of the reference's row of all that is told -/
def wvR (wv : Int → Int) : Prop := ∀ c, 9 ≤ c → c ≤ 16 → -1000 ≤ wv c ∧ wv c ≤ 1000
/-- law f can be asked whatever its words tell -/
def LWF (K : Int → Int) (f : Int) : Prop := ∀ (wv : Int → Int) (head wo : Int), wvR wv → ∃ r, tlL (cdA K (400 * f + K (26 + f))) (sE (cdA K (400 * f + K (26 + f))) (vlA K) (fun c _ => wv c) 0 9) (tsE (cdA K (400 * f + K (26 + f))) (sE (cdA K (400 * f + K (26 + f))) (vlA K) (fun c _ => wv c) 0 9) 9) (400 * f + K (26 + f)) head 20 wo (400 * f) = some r
/-- the row, its page, deep, mood, how many laws, which is in force -/
def KR (K : Int → Int) : Prop := (0 ≤ K 0 ∧ K 0 ≤ 20) ∧ (∀ j, 0 ≤ j → j < K 0 → 0 ≤ K (1 + j) ∧ K (1 + j) ≤ 11) ∧ (0 ≤ K 21 ∧ K 21 ≤ 999) ∧ (1 ≤ K 22 ∧ K 22 ≤ 9) ∧ (0 ≤ K 23 ∧ K 23 ≤ 9) ∧ (0 ≤ K 24 ∧ K 24 ≤ 6) ∧ (-1 ≤ K 25 ∧ K 25 < K 24)
/-- the texts -/
def KT (K : Int → Int) : Prop := (∀ k, 0 ≤ k → k < 2800 → 0 ≤ K (33 + k) ∧ K (33 + k) ≤ 400) ∧ (∀ k, 0 ≤ k → k ≤ 6 → 0 ≤ K (26 + k) ∧ K (26 + k) ≤ 400) ∧ ∀ f, 0 ≤ f → f < K 24 → LWF K f
def KOK (K : Int → Int) : Prop := KR K ∧ KT K
def tl (K : Int → Int) (head s p wo : Int) : Int := (TL K head s p wo).getD 0
theorem awv_R {K : Int → Int} {s p : Int} (h : KR K) (s0 : 0 ≤ s) (s1 : s ≤ 11) (p0 : 0 ≤ p) (p1 : p ≤ 20) : wvR (awv K s p) := by
  obtain ⟨a1, -, a2, -, a3, -, -⟩ := h
  intro c h1 h2
  have hk : -1 ≤ kd s ∧ kd s ≤ 2 := by
    unfold kd
    split
    · omega
    · have e1 := Int.tmod_nonneg 3 s0
      have e2 := Int.tmod_lt_of_pos s (show (0 : Int) < 3 by decide)
      omega
  unfold awv
  by_cases c1 : c = 9
  · rw [if_pos c1]; omega
  rw [if_neg c1]
  by_cases c2 : c = 10
  · rw [if_pos c2]; split <;> omega
  rw [if_neg c2]
  by_cases c3 : c = 11
  · rw [if_pos c3]; split <;> omega
  rw [if_neg c3]
  by_cases c4 : c = 12
  · rw [if_pos c4]; omega
  rw [if_neg c4]
  by_cases c5 : c = 13
  · rw [if_pos c5]; omega
  rw [if_neg c5]
  by_cases c6 : c = 14
  · rw [if_pos c6]; omega
  rw [if_neg c6]
  by_cases c7 : c = 15
  · rw [if_pos c7]; omega
  rw [if_neg c7]; omega
theorem KOK.has {K : Int → Int} {head s p wo : Int} (h : KOK K) (s0 : 0 ≤ s) (s1 : s ≤ 11) (p0 : 0 ≤ p) (p1 : p ≤ 20) : TL K head s p wo = some (tl K head s p wo) := by
  have key : ∃ r, TL K head s p wo = some r := by
    unfold TL
    by_cases hf : K 25 = -1
    · rw [if_pos hf]
      exact ⟨_, rfl⟩
    · rw [if_neg hf]
      obtain ⟨-, -, -, -, -, -, hf2⟩ := h.1
      exact h.2.2.2 (K 25) (by omega) (by omega) (awv K s p) head wo (awv_R h.1 s0 s1 p0 p1)
  obtain ⟨r, hr⟩ := key
  unfold tl
  rw [hr]
  rfl
theorem KOK.hasR {K : Int → Int} {head s p wo : Int} (h : KOK K) (s0 : 0 ≤ s) (s1 : s ≤ 11) (p0 : 0 ≤ p) (p1 : p ≤ 20) (hw : 0 ≤ wo ∧ wo ≤ 99) : 0 ≤ tl K head s p wo ∧ tl K head s p wo ≤ 99 := TL_R (h.has s0 s1 p0 p1) hw
/-- texts stay as they are if nothing from 24 on is changed -/
theorem cdA_same {K K' : Int → Int} (e : ∀ j, 33 ≤ j → K' j = K j) (z : Int) : cdA K' z = cdA K z := by
  funext k
  unfold cdA
  by_cases hk : 0 ≤ k ∧ k < z
  · rw [if_pos hk, if_pos hk, e _ (by omega)]
  · rw [if_neg hk, if_neg hk]
theorem vlA_same {K K' : Int → Int} (e : ∀ j, 33 ≤ j → K' j = K j) : vlA K' = vlA K := by
  funext k
  unfold vlA
  by_cases hk : 0 ≤ k ∧ k < 2800
  · rw [if_pos hk, if_pos hk, e _ (by omega)]
  · rw [if_neg hk, if_neg hk]
theorem LWF.same {K K' : Int → Int} {f : Int} (h : LWF K f) (f0 : 0 ≤ f) (e : ∀ j, 26 ≤ j → K' j = K j) : LWF K' f := by
  unfold LWF at h ⊢
  rw [cdA_same (fun j a => e j (by omega)), vlA_same (fun j a => e j (by omega)), e (26 + f) (by omega)]
  exact h
theorem KT.same {K K' : Int → Int} (h : KT K) (e : ∀ j, 24 ≤ j → j ≠ 25 → K' j = K j) : KT K' := by
  obtain ⟨h1, h2, h3⟩ := h
  refine ⟨fun k a b => by rw [e _ (by omega) (by omega)]; exact h1 k a b, fun k a b => by rw [e _ (by omega) (by omega)]; exact h2 k a b, fun f a b => ?_⟩
  rw [e 24 (by omega) (by omega)] at b
  exact (h3 f a b).same a (fun j hj => e j (by omega) (by omega))
def puR (K : Int → Int) (s p : Int) : Int := if ¬ (0 ≤ s ∧ s ≤ 11) then -1 else if ¬ (0 ≤ p ∧ p ≤ K 0) then -2 else if tl K 4 s p 0 = 1 then -3 else if K 0 = 20 then -5 else tl K 1 s p 1
def cuR (K : Int → Int) (p : Int) : Int := if ¬ (0 ≤ p ∧ p < K 0) then -2 else tl K 2 (K (1 + p)) p 1
def tuR (K : Int → Int) (p s : Int) : Int := if ¬ (0 ≤ s ∧ s ≤ 11) then -1 else if ¬ (0 ≤ p ∧ p < K 0) then -2 else if K (1 + p) = s ∨ tl K 4 s p 0 = 1 then -3 else K (1 + p)
def paR (K : Int → Int) : Int := if K 21 = 999 then -3 else K 21 + 1
