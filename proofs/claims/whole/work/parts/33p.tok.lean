/-! PURE: bytes split into tokens -/
def ub (b : Int) : Int := if b < 0 then b + 256 else b
abbrev isS (b : Int) : Prop := 97 ≤ b ∧ b ≤ 122
abbrev isDg (b : Int) : Prop := 48 ≤ b ∧ b ≤ 57
def rnT (t : Int → Int) (P : Int → Prop) [DecidablePred P] (size : Int) : Nat → Int → Int
  | 0, j => j
  | k + 1, j => if j < size ∧ P (t j) then rnT t P size k (j + 1) else j
theorem rnT_R {t : Int → Int} {P : Int → Prop} [DecidablePred P] {size : Int} : ∀ (k : Nat) (j : Int), j ≤ size → j ≤ rnT t P size k j ∧ rnT t P size k j ≤ size
  | 0, j, h => ⟨Int.le_refl _, h⟩
  | k + 1, j, h => by
    unfold rnT
    split
    · have := rnT_R (t := t) (P := P) (size := size) k (j + 1) (by omega)
      omega
    · exact ⟨Int.le_refl _, h⟩
def enT (t : Int → Int) (size k : Int) : Int := if isS (t k) then rnT t isS size (size - (k + 1)).toNat (k + 1) else if isDg (t k) then rnT t isDg size (size - (k + 1)).toNat (k + 1) else k + 1
theorem enT_R {t : Int → Int} {size k : Int} (h : k < size) : k + 1 ≤ enT t size k ∧ enT t size k ≤ size := by
  unfold enT
  split
  · exact rnT_R _ _ (by omega)
  · split
    · exact rnT_R _ _ (by omega)
    · omega
def nmT (t : Int → Int) : Nat → Int → Int → Int
  | 0, _, v => v
  | k + 1, j, v => nmT t k (j + 1) (if 1000000 < v then v else 10 * v + t j - 48)
/-- the word on the tape is this one -/
def eqT (t : Int → Int) : Int → List Int → Bool
  | _, [] => true
  | f, c :: cs => decide (t f = c) && eqT t (f + 1) cs
def isW (t : Int → Int) (f e : Int) (w : List Int) : Bool := decide (e - f = (w.length : Int)) && eqT t f w
def fnd (m : List Int → Bool) (dd : Int) : Int → List (List Int) → Int
  | _, [] => dd
  | n, w :: ws => if m w then n else fnd m dd (n + 1) ws
def WA : List (List Int) := [[99, 111, 115, 116, 115], [115, 116, 114, 105, 107, 101, 115], [119, 111, 114, 116, 104], [98, 97, 114, 115], [105, 102], [111, 114], [97, 110, 100], [110, 111, 116], [107, 105, 110, 100], [111, 112, 101, 110], [112, 101, 114, 115, 111, 110], [112, 108, 97, 99, 101], [109, 111, 111, 100], [115, 105, 103, 110], [108, 101, 110, 103, 116, 104], [112, 97, 103, 101], [100, 111, 110, 101], [108, 97, 116, 101, 115, 116], [108, 111, 111, 115, 101], [100, 101, 101, 112], [112, 117, 116], [97, 116], [99, 117, 116], [116, 117, 114, 110], [116, 111], [112, 97, 115, 115], [116, 105, 109, 101, 115]]
def WB : List (List Int) := [[99, 111, 115, 116, 115], [115, 116, 114, 105, 107, 101, 115], [119, 111, 114, 116, 104], [98, 97, 114, 115], [112, 117, 116], [99, 117, 116], [116, 117, 114, 110], [112, 97, 115, 115], [105, 102], [111, 114], [97, 110, 100], [110, 111, 116], [97, 116], [116, 111], [116, 105, 109, 101, 115], [107, 105, 110, 100], [111, 112, 101, 110], [112, 101, 114, 115, 111, 110], [112, 108, 97, 99, 101], [109, 111, 111, 100], [115, 105, 103, 110], [108, 101, 110, 103, 116, 104], [112, 97, 103, 101], [100, 111, 110, 101], [108, 97, 116, 101, 115, 116], [108, 111, 111, 115, 101], [100, 101, 101, 112]]
def TA : List Int := [99, 111, 115, 116, 115, 32, 115, 116, 114, 105, 107, 101, 115, 32, 119, 111, 114, 116, 104, 32, 98, 97, 114, 115, 32, 105, 102, 32, 111, 114, 32, 97, 110, 100, 32, 110, 111, 116, 32, 107, 105, 110, 100, 32, 111, 112, 101, 110, 32, 112, 101, 114, 115, 111, 110, 32, 112, 108, 97, 99, 101, 32, 109, 111, 111, 100, 32, 115, 105, 103, 110, 32, 108, 101, 110, 103, 116, 104, 32, 112, 97, 103, 101, 32, 100, 111, 110, 101, 32, 108, 97, 116, 101, 115, 116, 32, 108, 111, 111, 115, 101, 32, 100, 101, 101, 112, 32, 112, 117, 116, 32, 97, 116, 32, 99, 117, 116, 32, 116, 117, 114, 110, 32, 116, 111, 32, 112, 97, 115, 115, 32, 116, 105, 109, 101, 115, 32]
def TB : List Int := [99, 111, 115, 116, 115, 32, 115, 116, 114, 105, 107, 101, 115, 32, 119, 111, 114, 116, 104, 32, 98, 97, 114, 115, 32, 112, 117, 116, 32, 99, 117, 116, 32, 116, 117, 114, 110, 32, 112, 97, 115, 115, 32, 105, 102, 32, 111, 114, 32, 97, 110, 100, 32, 110, 111, 116, 32, 97, 116, 32, 116, 111, 32, 116, 105, 109, 101, 115, 32, 107, 105, 110, 100, 32, 111, 112, 101, 110, 32, 112, 101, 114, 115, 111, 110, 32, 112, 108, 97, 99, 101, 32, 109, 111, 111, 100, 32, 115, 105, 103, 110, 32, 108, 101, 110, 103, 116, 104, 32, 112, 97, 103, 101, 32, 100, 111, 110, 101, 32, 108, 97, 116, 101, 115, 116, 32, 108, 111, 111, 115, 101, 32, 100, 101, 101, 112, 32]
def cdT (t : Int → Int) (size k : Int) : Int := if isS (t k) then fnd (isW t k (enT t size k)) 0 1 WA else if isDg (t k) then 50 else 100 + ub (t k)
def vlT (t : Int → Int) (size k : Int) : Int := if isDg (t k) then nmT t (enT t size k - k).toNat k 0 else 0
abbrev TKS : Type := Int × (Int → Int) × (Int → Int) × (Int → Int)
def spT (t : Int → Int) (size : Int) : Nat → Int → TKS → TKS
  | 0, _, q => q
  | m + 1, k, q => if size ≤ k then q else if t k = 32 then spT t size m (k + 1) q else spT t size m (enT t size k) (q.1 + 1, up q.2.1 q.1 (cdT t size k), up q.2.2.1 q.1 (vlT t size k), up q.2.2.2 q.1 k)
theorem fnd_R {m : List Int → Bool} : ∀ (ws : List (List Int)) (n : Int), 0 ≤ n → 0 ≤ fnd m 0 n ws ∧ fnd m 0 n ws ≤ n + ws.length
  | [], n, h => by
    show 0 ≤ (0 : Int) ∧ (0 : Int) ≤ n + 0
    omega
  | w :: ws, n, h => by
    unfold fnd
    split
    · simp only [List.length_cons]; omega
    · have := fnd_R (m := m) ws (n + 1) (by omega)
      simp only [List.length_cons]; omega
theorem nmT_R {t : Int → Int} : ∀ (k : Nat) (j v : Int), (∀ i, j ≤ i → i < j + k → isDg (t i)) → 0 ≤ v → v ≤ 10000009 → 0 ≤ nmT t k j v ∧ nmT t k j v ≤ 10000009
  | 0, j, v, _, h1, h2 => ⟨h1, h2⟩
  | k + 1, j, v, h, h1, h2 => by
    unfold nmT
    have hj := h j (Int.le_refl _) (by omega)
    split
    · exact nmT_R k (j + 1) _ (fun i a b => h i (by omega) (by omega)) h1 h2
    · exact nmT_R k (j + 1) _ (fun i a b => h i (by omega) (by omega)) (by omega) (by omega)
theorem rnT_all {t : Int → Int} {P : Int → Prop} [DecidablePred P] {size : Int} : ∀ (k : Nat) (j i : Int), j ≤ i → i < rnT t P size k j → P (t i)
  | 0, j, i, h1, h2 => by
    have h3 : i < j := h2
    omega
  | k + 1, j, i, h1, h2 => by
    unfold rnT at h2
    split at h2
    · next c =>
      by_cases e : i = j
      · rw [e]; exact c.2
      · exact rnT_all k (j + 1) i (by omega) h2
    · omega
theorem enT_dg {t : Int → Int} {size k : Int} (h : isDg (t k)) : ∀ i, k ≤ i → i < enT t size k → isDg (t i) := by
  intro i h1 h2
  unfold enT at h2
  rw [if_neg (by omega), if_pos h] at h2
  by_cases e : i = k
  · rw [e]; exact h
  · exact rnT_all (P := isDg) _ _ i (by omega) h2
theorem vlT_R {t : Int → Int} {size k : Int} (h : k < size) : 0 ≤ vlT t size k ∧ vlT t size k ≤ 10000009 := by
  unfold vlT
  split
  · next c =>
    have he := enT_R (t := t) h
    exact nmT_R _ _ _ (fun i a b => enT_dg (size := size) c i a (by omega)) (by omega) (by omega)
  · omega
theorem cdT_R {t : Int → Int} {size k : Int} (ht : -128 ≤ t k ∧ t k ≤ 255) : 0 ≤ cdT t size k ∧ cdT t size k ≤ 400 := by
  unfold cdT
  split
  · have := fnd_R (m := isW t k (enT t size k)) WA 1 (by omega)
    rw [show WA.length = 27 from rfl] at this
    omega
  · split
    · omega
    · unfold ub
      split <;> omega
theorem spT_R {t : Int → Int} {size : Int} (hs : size ≤ 400) (ht : ∀ j, 0 ≤ j → j < size → -128 ≤ t j ∧ t j ≤ 255) : ∀ (m : Nat) (k : Int) (q : TKS), 0 ≤ k → k ≤ size → 0 ≤ q.1 → q.1 ≤ k → (∀ j, 0 ≤ j → j < q.1 → (0 ≤ q.2.1 j ∧ q.2.1 j ≤ 400) ∧ (0 ≤ q.2.2.1 j ∧ q.2.2.1 j ≤ 100000000) ∧ (0 ≤ q.2.2.2 j ∧ q.2.2.2 j ≤ 400)) →
    0 ≤ (spT t size m k q).1 ∧ (spT t size m k q).1 ≤ size ∧ ∀ j, 0 ≤ j → j < (spT t size m k q).1 → (0 ≤ (spT t size m k q).2.1 j ∧ (spT t size m k q).2.1 j ≤ 400) ∧ (0 ≤ (spT t size m k q).2.2.1 j ∧ (spT t size m k q).2.2.1 j ≤ 100000000) ∧ (0 ≤ (spT t size m k q).2.2.2 j ∧ (spT t size m k q).2.2.2 j ≤ 400)
  | 0, k, q, k0, k1, h0, h1, h => ⟨h0, Int.le_trans h1 k1, h⟩
  | m + 1, k, q, k0, k1, h0, h1, h => by
    unfold spT
    by_cases c1 : size ≤ k
    · rw [if_pos c1]
      exact ⟨h0, by omega, h⟩
    rw [if_neg c1]
    by_cases c2 : t k = 32
    · rw [if_pos c2]
      exact spT_R hs ht m (k + 1) q (by omega) (by omega) h0 (by omega) h
    rw [if_neg c2]
    have he := enT_R (t := t) (size := size) (k := k) (by omega)
    refine spT_R hs ht m _ _ (by omega) he.2 (by simp only; omega) (by simp only; omega) (fun j j0 j1 => ?_)
    simp only at j1 ⊢
    by_cases e : j = q.1
    · rw [e, up_eq, up_eq, up_eq]
      have a1 := cdT_R (size := size) (ht k k0 (by omega))
      have a2 := vlT_R (t := t) (size := size) (k := k) (by omega)
      omega
    · rw [up_ne e, up_ne e, up_ne e]
      exact h j j0 (by omega)
/-- all of it -/
def tkz (t : Int → Int) (size : Int) (q : TKS) : TKS := ((spT t size 400 0 (0, q.2)).1, up (spT t size 400 0 (0, q.2)).2.1 (spT t size 400 0 (0, q.2)).1 0, up (spT t size 400 0 (0, q.2)).2.2.1 (spT t size 400 0 (0, q.2)).1 0, up (spT t size 400 0 (0, q.2)).2.2.2 (spT t size 400 0 (0, q.2)).1 size)
theorem tkz_R {t : Int → Int} {size : Int} {q : TKS} (h0 : 0 ≤ size) (hs : size ≤ 400) (ht : ∀ j, 0 ≤ j → j < size → -128 ≤ t j ∧ t j ≤ 255) : 0 ≤ (tkz t size q).1 ∧ (tkz t size q).1 ≤ 400 ∧ (tkz t size q).2.1 (tkz t size q).1 = 0 ∧ ∀ j, 0 ≤ j → j ≤ (tkz t size q).1 → (0 ≤ (tkz t size q).2.1 j ∧ (tkz t size q).2.1 j ≤ 400) ∧ (0 ≤ (tkz t size q).2.2.1 j ∧ (tkz t size q).2.2.1 j ≤ 100000000) ∧ (0 ≤ (tkz t size q).2.2.2 j ∧ (tkz t size q).2.2.2 j ≤ 400) := by
  obtain ⟨a1, a2, a3⟩ := spT_R hs ht 400 0 (0, q.2) (Int.le_refl 0) h0 (Int.le_refl 0) (Int.le_refl 0) (fun j b1 b2 => by simp only at b2; omega)
  refine ⟨a1, by show (spT t size 400 0 (0, q.2)).1 ≤ 400; omega, up_eq, fun j j0 j1 => ?_⟩
  unfold tkz at j1 ⊢
  simp only at j1 ⊢
  by_cases e : j = (spT t size 400 0 (0, q.2)).1
  · rw [e, up_eq, up_eq, up_eq]
    omega
  · rw [up_ne e, up_ne e, up_ne e]
    exact a3 j j0 (by omega)
/-- a table of words holds these from k on -/
def tbl (T : List Int) : Nat → List (List Int) → Bool
  | k, [] => k == T.length
  | k, w :: ws => ((T.drop k).take (w.length + 1) == w ++ [32]) && w.all (fun c => !(c == 32)) && decide (k + w.length < T.length) && tbl T (k + w.length + 1) ws
theorem tbl_A : tbl TA 0 WA = true := by decide +kernel
theorem tbl_B : tbl TB 0 WB = true := by decide +kernel
def ofL (T : List Int) (j : Int) : Int := T.getD j.toNat 0
theorem tbl_cons {T : List Int} {k : Nat} {w : List Int} {ws : List (List Int)} (h : tbl T k (w :: ws) = true) : (∀ i : Nat, i < w.length → ofL T ((k : Int) + (i : Int)) = w.getD i 0 ∧ ofL T ((k : Int) + (i : Int)) ≠ 32) ∧ ofL T ((k : Int) + (w.length : Int)) = 32 ∧ k + w.length < T.length ∧ tbl T (k + w.length + 1) ws = true := by
  unfold tbl at h
  simp only [Bool.and_eq_true, beq_iff_eq, decide_eq_true_eq] at h
  obtain ⟨⟨⟨h1, h2⟩, h3⟩, h4⟩ := h
  have key : ∀ i : Nat, i ≤ w.length → ofL T ((k : Int) + (i : Int)) = (w ++ [32]).getD i 0 := by
    intro i hi
    unfold ofL
    rw [show ((k : Int) + (i : Int)).toNat = k + i by omega, ← h1]
    simp only [List.getD_eq_getElem?_getD]
    rw [List.getElem?_take_of_lt (by omega), List.getElem?_drop]
  refine ⟨fun i hi => ?_, ?_, h3, h4⟩
  · rw [key i (by omega)]
    have e : (w ++ [32]).getD i 0 = w.getD i 0 := by
      simp only [List.getD_eq_getElem?_getD]
      rw [List.getElem?_append_left hi]
    rw [e]
    refine ⟨rfl, fun q => ?_⟩
    have hm : w.getD i 0 ∈ w := by
      rw [List.getD_eq_getElem?_getD, List.getElem?_eq_getElem hi]
      exact List.getElem_mem hi
    have := List.all_eq_true.mp h2 _ hm
    rw [q] at this
    simp at this
  · rw [key w.length (Nat.le_refl _)]
    simp [List.getD_eq_getElem?_getD]
theorem tbl_nil {T : List Int} {k : Nat} (h : tbl T k [] = true) : k = T.length := by
  unfold tbl at h
  simpa using h
/-- as many signs alike -/
def eqN (t : Int → Int) (f : Int) (w : List Int) : Nat → Prop
  | 0 => True
  | n + 1 => eqN t f w n ∧ w.getD n 0 = t (f + (n : Int))
theorem eqT_N {t : Int → Int} : ∀ (w : List Int) (f : Int), eqT t f w = true ↔ ∀ i : Nat, i < w.length → w.getD i 0 = t (f + (i : Int))
  | [], f => ⟨fun _ i h => by simp at h, fun _ => rfl⟩
  | c :: cs, f => by
    unfold eqT
    rw [Bool.and_eq_true, decide_eq_true_eq, eqT_N cs (f + 1)]
    constructor
    · rintro ⟨h1, h2⟩ i hi
      cases i with
      | zero => simp; exact h1.symm
      | succ i =>
        have := h2 i (by simpa using hi)
        simp only [List.getD_cons_succ]
        rw [this]
        congr 1
        omega
    · intro h
      refine ⟨?_, fun i hi => ?_⟩
      · have := h 0 (by simp)
        simpa using this.symm
      · have := h (i + 1) (by simpa using hi)
        simp only [List.getD_cons_succ] at this
        rw [this]
        congr 1
        omega
