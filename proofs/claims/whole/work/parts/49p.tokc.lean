/-! PURE: tokens of the class against those of the reference -/
def TMP : List Int := [300, 256, 257, 258, 259, 264, 265, 266, 267, 271, 272, 273, 274, 275, 276, 277, 278, 279, 280, 281, 282, 260, 268, 261, 262, 269, 263, 270]
def tkm (c : Int) : Int := if c ≤ 27 then ofL TMP c else if c = 50 then 301 else c - 100
theorem isW_inj {t : Int → Int} {f e : Int} {w w2 : List Int} (h : isW t f e w = true) (h2 : isW t f e w2 = true) : w2 = w := by
  unfold isW at h h2
  rw [Bool.and_eq_true, decide_eq_true_eq, eqT_N] at h h2
  have hl : w2.length = w.length := by omega
  refine List.ext_getElem hl (fun i a b => ?_)
  have e1 := h.2 i b
  have e2 := h2.2 i a
  rw [List.getD_eq_getElem?_getD, List.getElem?_eq_getElem b] at e1
  rw [List.getD_eq_getElem?_getD, List.getElem?_eq_getElem a] at e2
  exact e2.trans e1.symm
theorem fnd_no {m : List Int → Bool} {dd : Int} : ∀ (ws : List (List Int)) (n : Int), (∀ w ∈ ws, ¬ m w = true) → fnd m dd n ws = dd
  | [], n, h => rfl
  | w :: ws, n, h => by
    unfold fnd
    rw [if_neg (h w (List.mem_cons_self))]
    exact fnd_no ws (n + 1) (fun w2 hw => h w2 (List.mem_cons_of_mem _ hw))
theorem fnd_of {m : List Int → Bool} {dd : Int} {w : List Int} (hm : m w = true) : ∀ (ws : List (List Int)) (n : Int), (∀ w2 ∈ ws, m w2 = true → w2 = w) → w ∈ ws → fnd m dd n ws = n + (ws.idxOf w : Int)
  | [], n, h, hw => by simp at hw
  | w0 :: ws, n, h, hw => by
    unfold fnd
    by_cases c : m w0 = true
    · have e := h w0 List.mem_cons_self c
      rw [if_pos c, e, List.idxOf_cons_self]
      simp
    · rw [if_neg c]
      have hne : w0 ≠ w := fun e => c (by rw [e]; exact hm)
      have hw2 : w ∈ ws := by
        rcases List.mem_cons.mp hw with e | e
        · exact absurd e.symm hne
        · exact e
      rw [fnd_of hm ws (n + 1) (fun w2 q => h w2 (List.mem_cons_of_mem _ q)) hw2, List.idxOf_cons, beq_eq_false_iff_ne.mpr hne]
      simp only [cond_false]
      omega
theorem words_AB : ∀ w ∈ WA, w ∈ WB ∧ 256 + (WB.idxOf w : Int) = tkm (1 + (WA.idxOf w : Int)) := by decide +kernel
theorem words_BA : ∀ w ∈ WB, w ∈ WA := by decide +kernel
theorem fnd_AB {t : Int → Int} {f e : Int} : fnd (isW t f e) 300 256 WB = tkm (fnd (isW t f e) 0 1 WA) := by
  by_cases h : ∃ w ∈ WA, isW t f e w = true
  · obtain ⟨w, hw, hm⟩ := h
    obtain ⟨h1, h2⟩ := words_AB w hw
    rw [fnd_of hm WA 1 (fun w2 _ q => isW_inj hm q) hw, fnd_of hm WB 256 (fun w2 _ q => isW_inj hm q) h1, h2]
  · have hA : ∀ w ∈ WA, ¬ isW t f e w = true := fun w hw q => h ⟨w, hw, q⟩
    rw [fnd_no WA 1 hA, fnd_no WB 256 (fun w hw => hA w (words_BA w hw))]
    decide
def nmC (t : Int → Int) : Nat → Int → Int → Int
  | 0, _, v => v
  | k + 1, j, v => nmC t k (j + 1) (min 1001 (v * 10 + t j - 48))
theorem nmC_T {t : Int → Int} : ∀ (k : Nat) (j v : Int), (∀ i, j ≤ i → i < j + k → isDg (t i)) → 0 ≤ v → nmC t k j (min 1001 v) = min 1001 (nmT t k j v)
  | 0, j, v, h, hv => rfl
  | k + 1, j, v, h, hv => by
    have hj := h j (Int.le_refl _) (by omega)
    unfold nmC nmT
    by_cases c : 1000000 < v
    · rw [if_pos c, show min 1001 (min 1001 v * 10 + t j - 48) = min 1001 v by omega]
      exact nmC_T k (j + 1) v (fun i a b => h i (by omega) (by omega)) hv
    · rw [if_neg c, show min 1001 (min 1001 v * 10 + t j - 48) = min 1001 (10 * v + t j - 48) by omega]
      exact nmC_T k (j + 1) _ (fun i a b => h i (by omega) (by omega)) (by omega)
/-- the class's tokens against those of the reference, the first N of them -/
def TkR (N : Int) (C V Pl tk ps pv : Int → Int) : Prop := ∀ j, 0 ≤ j → j < N → tk j = tkm (C j) ∧ ps j = Pl j ∧ (C j = 50 → pv j = min 1001 (V j))
theorem TkR.next {N : Int} {C V Pl tk ps pv : Int → Int} (h : TkR N C V Pl tk ps pv) {c v k tc pc vc : Int} {pv2 : Int → Int} (e1 : tc = tkm c) (e2 : pc = k) (e3 : c = 50 → vc = min 1001 v) (e4 : ∀ j, 0 ≤ j → j < N → pv2 j = pv j) (e5 : c = 50 → pv2 N = vc) : TkR (N + 1) (up C N c) (up V N v) (up Pl N k) (up tk N tc) (up ps N pc) pv2 := by
  intro j j0 j1
  by_cases e : j = N
  · rw [e, up_eq, up_eq, up_eq, up_eq, up_eq]
    exact ⟨e1, e2, fun q => by rw [e5 q]; exact e3 q⟩
  · rw [up_ne e, up_ne e, up_ne e, up_ne e, up_ne e, e4 j j0 (by omega)]
    exact h j j0 (by omega)
theorem cdT_w {t : Int → Int} {size k : Int} (h : isS (t k)) : tkm (cdT t size k) = fnd (isW t k (enT t size k)) 300 256 WB := by
  unfold cdT
  rw [if_pos h, fnd_AB]
theorem cdT_d {t : Int → Int} {size k : Int} (h : isDg (t k)) : cdT t size k = 50 := by
  unfold cdT
  rw [if_neg (by omega), if_pos h]
theorem cdT_o {t : Int → Int} {size k : Int} (h : ¬ isS (t k)) (h2 : ¬ isDg (t k)) (h3 : 0 ≤ t k) : cdT t size k = 100 + t k := by
  unfold cdT ub
  rw [if_neg h, if_neg h2, if_neg (by omega)]
theorem tkm_o {b : Int} (h : 0 ≤ b) : tkm (100 + b) = b := by
  unfold tkm
  rw [if_neg (by omega), if_neg (by omega)]
  omega
