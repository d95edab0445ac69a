/-! PURE: texts read by the class -/
theorem ClA.keep {hb c z ze : Int} {kn ff sc ts mm st vl kn' ff' sc' ts' mm' st' vl' : Int → Int} {q : CXC} (h : ClA hb kn ff sc ts mm st vl c z q) (h1 : kn' c = kn c ∧ ff' c = ff c ∧ sc' c = sc c ∧ ts' c = ts c ∧ mm' c = mm c) (h2 : ∀ j, j < ze → st' j = st j ∧ vl' j = vl j) (h3 : z + ((lyC z q).length : Int) ≤ ze) : ClA hb kn' ff' sc' ts' mm' st' vl' c z q := by
  obtain ⟨a1, a2, a3, a4, a5, a6⟩ := h
  exact ⟨h1.1.trans a1, h1.2.1.trans a2, h1.2.2.1.trans a3, h1.2.2.2.1.trans a4, h1.2.2.2.2.trans a5, a6.keep (fun j hj => h2 j (by omega))⟩
theorem TxR.snoc {hb : Int} {kn ff sc ts mm st vl kn' ff' sc' ts' mm' st' vl' : Int → Int} {q : CXC} : ∀ (cs : List CXC) (c z ze : Int), TxR hb kn ff sc ts mm st vl c z cs ze → (∀ j, j < c + (cs.length : Int) → kn' j = kn j ∧ ff' j = ff j ∧ sc' j = sc j ∧ ts' j = ts j ∧ mm' j = mm j) → (∀ j, j < ze → st' j = st j ∧ vl' j = vl j) → ClA hb kn' ff' sc' ts' mm' st' vl' (c + (cs.length : Int)) ze q → TxR hb kn' ff' sc' ts' mm' st' vl' c z (cs ++ [q]) (ze + ((lyC ze q).length : Int))
  | [], c, z, ze, h, h1, h2, h3 => by
    have e : z = ze := h
    subst e
    rw [show c + (([] : List CXC).length : Int) = c from Int.add_zero c] at h3
    exact ⟨h3, rfl⟩
  | q0 :: qs, c, z, ze, h, h1, h2, h3 => by
    obtain ⟨a1, a2⟩ := h
    have hz := (TxR_at qs _ _ _ a2).1
    have hl : ((q0 :: qs).length : Int) = (qs.length : Int) + 1 := rfl
    refine ⟨a1.keep (h1 c (by omega)) h2 hz, TxR.snoc qs (c + 1) _ ze a2 (fun j hj => h1 j (by omega)) h2 ?_⟩
    rw [show c + 1 + (qs.length : Int) = c + ((q0 :: qs).length : Int) by omega]
    exact h3
theorem TxR.keep {hb : Int} {kn ff sc ts mm st vl kn' ff' sc' ts' mm' st' vl' : Int → Int} : ∀ (cs : List CXC) (c z ze : Int), TxR hb kn ff sc ts mm st vl c z cs ze → (∀ j, c ≤ j → j < c + (cs.length : Int) → kn' j = kn j ∧ ff' j = ff j ∧ sc' j = sc j ∧ ts' j = ts j ∧ mm' j = mm j) → (∀ j, z ≤ j → j < ze → st' j = st j ∧ vl' j = vl j) → TxR hb kn' ff' sc' ts' mm' st' vl' c z cs ze
  | [], c, z, ze, h, h1, h2 => h
  | q0 :: qs, c, z, ze, h, h1, h2 => by
    obtain ⟨⟨a1, a2, a3, a4, a5, a6⟩, b1⟩ := h
    have hz := (TxR_at qs _ _ _ b1).1
    have hl : ((q0 :: qs).length : Int) = (qs.length : Int) + 1 := rfl
    have k := h1 c (by omega) (by omega)
    refine ⟨⟨k.1.trans a1, k.2.1.trans a2, k.2.2.1.trans a3, k.2.2.2.1.trans a4, k.2.2.2.2.trans a5, fun i q hq => ?_⟩, TxR.keep qs (c + 1) _ ze b1 (fun j j0 j1 => h1 j (by omega) (by omega)) (fun j j0 j1 => h2 j (by omega) j1)⟩
    have hi := (List.getElem?_eq_some_iff.mp hq).1
    have := h2 (z + i) (by omega) (by omega)
    rw [this.1, this.2]
    exact a6 i q hq
/-- from a clause on -/
def rdE (N : Int) (r : PR (List CXC)) : PR (List CXC) := match r with
  | .inr t => .inr t
  | .inl r => if r.2.1 < N then .inr r.2.1 else .inl (r.1, r.2.1, r.2.2)
def rdG (C V : Int → Int) (N io fw lw : Int) (k : Nat) (n : Int) (cs : List CXC) (tk lv : Int) : PR (List CXC) := match pOne C V io fw lw tk lv with
  | .inr t => .inr t
  | .inl q => rdE N (pMo C (pOne C V io fw lw) k n (cs ++ [q.1]) q.2.1 q.2.2)
theorem pRd_rdG {C V : Int → Int} {N io fw lw : Int} : pRd C V N io fw lw = rdG C V N io fw lw 13 1 [] 0 0 := by
  unfold pRd rdG
  cases pOne C V io fw lw 0 0 with
  | inr t => rfl
  | inl q =>
    show (match pMo C (pOne C V io fw lw) 13 1 [q.1] q.2.1 q.2.2 with
      | .inr t => .inr t
      | .inl r => if r.2.1 < N then .inr r.2.1 else .inl (r.1, r.2.1, r.2.2)) = rdE N (pMo C (pOne C V io fw lw) 13 1 [q.1] q.2.1 q.2.2)
    rfl
section RDF
variable {C V : Int → Int} {N io fw lw n tk lv t l : Int} {k : Nat} {cs : List CXC} {q : CXC}
theorem rdG_er (h : pOne C V io fw lw tk lv = .inr t) : rdG C V N io fw lw k n cs tk lv = .inr t := by
  unfold rdG
  rw [h]
theorem rdG_go (h : pOne C V io fw lw tk lv = .inl (q, t, l)) : rdG C V N io fw lw k n cs tk lv = rdE N (pMo C (pOne C V io fw lw) k n (cs ++ [q]) t l) := by
  unfold rdG
  rw [h]
theorem rdE_end (h : ¬ C t = 159) (h2 : ¬ t < N) : rdE N (pMo C (pOne C V io fw lw) (k + 1) n cs t l) = .inl (cs, t, l) := by
  rw [pMo, if_neg h]
  exact if_neg h2
theorem rdE_no (h : ¬ C t = 159) (h2 : t < N) : rdE N (pMo C (pOne C V io fw lw) (k + 1) n cs t l) = .inr t := by
  rw [pMo, if_neg h]
  exact if_pos h2
theorem rdE_12 (h : C t = 159) (h2 : n = 12) : rdE N (pMo C (pOne C V io fw lw) (k + 1) n cs t l) = .inr (t + 1) := by
  rw [pMo, if_pos h, if_pos h2]
  rfl
theorem rdE_go (h : C t = 159) (h2 : ¬ n = 12) : rdE N (pMo C (pOne C V io fw lw) (k + 1) n cs t l) = rdG C V N io fw lw k (n + 1) cs (t + 1) l := by
  rw [pMo, if_pos h, if_neg h2]
  unfold rdG
  cases pOne C V io fw lw (t + 1) l with
  | inr t => rfl
  | inl q => rfl
end RDF
/-! the tokens themselves -/
theorem fnd_R2 {m : List Int → Bool} : ∀ (ws : List (List Int)) (n : Int), 1 ≤ n → fnd m 0 n ws = 0 ∨ (n ≤ fnd m 0 n ws ∧ fnd m 0 n ws < n + ws.length)
  | [], n, h => Or.inl rfl
  | w :: ws, n, h => by
    unfold fnd
    split
    · right; simp only [List.length_cons]; omega
    · have := fnd_R2 (m := m) ws (n + 1) (by omega)
      simp only [List.length_cons]; omega
theorem cdT_v {t : Int → Int} {size k : Int} (ht : -128 ≤ t k ∧ t k ≤ 255) : vC (cdT t size k) := by
  unfold cdT
  split
  · have := fnd_R2 (m := isW t k (enT t size k)) WA 1 (by decide)
    rw [show WA.length = 27 from rfl] at this
    exact Or.inl (by omega)
  · split
    · exact Or.inr (Or.inl rfl)
    · refine Or.inr (Or.inr ?_)
      unfold ub
      split <;> omega
theorem spT_v {t : Int → Int} {size : Int} (ht : ∀ j, 0 ≤ j → j < size → -128 ≤ t j ∧ t j ≤ 255) : ∀ (m : Nat) (k : Int) (q : TKS), 0 ≤ k → 0 ≤ q.1 → (∀ j, 0 ≤ j → j < q.1 → vC (q.2.1 j)) → ∀ j, 0 ≤ j → j < (spT t size m k q).1 → vC ((spT t size m k q).2.1 j)
  | 0, k, q, k0, q0, h => h
  | m + 1, k, q, k0, q0, h => by
    unfold spT
    split
    · exact h
    · next hk =>
      split
      · exact spT_v ht m (k + 1) q (by omega) q0 h
      · have he := enT_R (t := t) (size := size) (k := k) (by omega)
        refine spT_v ht m _ _ (by omega) (by show 0 ≤ q.1 + 1; omega) (fun j j0 j1 => ?_)
        show vC (up q.2.1 q.1 (cdT t size k) j)
        have j2 : j < q.1 + 1 := j1
        by_cases e : j = q.1
        · rw [e, up_eq]
          exact cdT_v (ht k k0 (by omega))
        · rw [up_ne e]
          exact h j j0 (by omega)
/-- the tokens of a tape: how many, codes, values, places -/
theorem TkH_of {t : Int → Int} {size : Int} {q : TKS} {tk ps pv : Int → Int} (h0 : 0 ≤ size) (h1 : size ≤ 400) (ht : ∀ j, 0 ≤ j → j < size → 0 ≤ t j ∧ t j ≤ 255) (hR : TkR (spT t size 400 0 (0, q.2)).1 (spT t size 400 0 (0, q.2)).2.1 (spT t size 400 0 (0, q.2)).2.2.1 (spT t size 400 0 (0, q.2)).2.2.2 tk ps pv) (he : tk (spT t size 400 0 (0, q.2)).1 = 302) (hp : ps (spT t size 400 0 (0, q.2)).1 = size) : TkH (tkz t size q).2.1 (tkz t size q).2.2.1 (tkz t size q).1 tk pv ∧ ∀ j, 0 ≤ j → j ≤ (tkz t size q).1 → ps j = (tkz t size q).2.2.2 j := by
  have hz := tkz_R (t := t) (size := size) (q := q) h0 h1 (fun j a b => by have := ht j a b; omega)
  have hv := spT_v (t := t) (size := size) (fun j a b => by have := ht j a b; omega) 400 0 (0, q.2) (by omega) (by show (0 : Int) ≤ 0; omega) (fun j a b => by have b2 : j < 0 := b; omega)
  have e1 : (tkz t size q).1 = (spT t size 400 0 (0, q.2)).1 := rfl
  have e2 : (tkz t size q).2.1 = up (spT t size 400 0 (0, q.2)).2.1 (spT t size 400 0 (0, q.2)).1 0 := rfl
  have e3 : (tkz t size q).2.2.1 = up (spT t size 400 0 (0, q.2)).2.2.1 (spT t size 400 0 (0, q.2)).1 0 := rfl
  have e4 : (tkz t size q).2.2.2 = up (spT t size 400 0 (0, q.2)).2.2.2 (spT t size 400 0 (0, q.2)).1 size := rfl
  generalize spT t size 400 0 (0, q.2) = Z at *
  rw [e1, e2, e3, e4]
  rw [e1, e2, e3, e4] at hz
  refine ⟨⟨⟨hz.1, hz.2.1⟩, up_eq, fun j j0 j1 => ⟨?_, (hz.2.2.2 j j0 (by omega)).2.1.1⟩, fun j j0 j1 => ?_⟩, fun j j0 j1 => ?_⟩
  · rw [up_ne (by omega)]
    exact hv j j0 j1
  · by_cases e : j = Z.1
    · rw [e, up_eq, he]
      refine ⟨?_, fun q => absurd q (by decide)⟩
      unfold tkF
      rw [if_neg (by omega)]
    · have hr := hR j j0 (by omega)
      rw [up_ne e, up_ne e]
      refine ⟨?_, hr.2.2⟩
      rw [hr.1]
      unfold tkF
      rw [if_pos (by omega), up_ne e]
  · by_cases e : j = Z.1
    · rw [e, up_eq, hp]
    · rw [up_ne e]
      exact (hR j j0 (by omega)).2.1
theorem ub_S {b : Int} (h : -128 ≤ b ∧ b ≤ 127) : (isS (ub b) ↔ isS b) ∧ (isDg (ub b) ↔ isDg b) ∧ (ub b = 32 ↔ b = 32) ∧ ub (ub b) = ub b ∧ (0 ≤ b → ub b = b) := by
  unfold ub
  by_cases c : b < 0
  · rw [if_pos c, if_neg (by omega)]
    exact ⟨⟨fun q => by omega, fun q => by omega⟩, ⟨fun q => by omega, fun q => by omega⟩, ⟨fun q => by omega, fun q => by omega⟩, rfl, fun q => by omega⟩
  · rw [if_neg c, if_neg c]
    exact ⟨Iff.rfl, Iff.rfl, Iff.rfl, rfl, fun _ => rfl⟩
section UB
variable {t u : Int → Int} {size : Int}
theorem rnT_ub {P : Int → Prop} [DecidablePred P] (hP : ∀ b, -128 ≤ b ∧ b ≤ 127 → (P (ub b) ↔ P b)) (ht : ∀ j, 0 ≤ j → j < 400 → -128 ≤ t j ∧ t j ≤ 127) (hu : ∀ j, 0 ≤ j → j < size → u j = ub (t j)) (hs : size ≤ 400) : ∀ (m : Nat) (k : Int), 0 ≤ k → rnT u P size m k = rnT t P size m k
  | 0, k, k0 => rfl
  | m + 1, k, k0 => by
    simp only [rnT]
    by_cases c : k < size
    · have e := hP (t k) (ht k k0 (by omega))
      rw [hu k k0 c]
      by_cases c2 : P (t k)
      · rw [if_pos ⟨c, e.mpr c2⟩, if_pos ⟨c, c2⟩]
        exact rnT_ub hP ht hu hs m (k + 1) (by omega)
      · rw [if_neg (fun q => c2 (e.mp q.2)), if_neg (fun q => c2 q.2)]
    · rw [if_neg (fun q => c q.1), if_neg (fun q => c q.1)]
theorem enT_ub (ht : ∀ j, 0 ≤ j → j < 400 → -128 ≤ t j ∧ t j ≤ 127) (hu : ∀ j, 0 ≤ j → j < size → u j = ub (t j)) (hs : size ≤ 400) {k : Int} (k0 : 0 ≤ k) (k1 : k < size) : enT u size k = enT t size k := by
  have e := ub_S (ht k k0 (by omega))
  unfold enT
  rw [hu k k0 k1]
  by_cases c1 : isS (t k)
  · rw [if_pos (e.1.mpr c1), if_pos c1]
    exact rnT_ub (fun b hb => (ub_S hb).1) ht hu hs _ _ (by omega)
  · rw [if_neg (fun q => c1 (e.1.mp q)), if_neg c1]
    by_cases c2 : isDg (t k)
    · rw [if_pos (e.2.1.mpr c2), if_pos c2]
      exact rnT_ub (fun b hb => (ub_S hb).2.1) ht hu hs _ _ (by omega)
    · rw [if_neg (fun q => c2 (e.2.1.mp q)), if_neg c2]
theorem eqT_ub (hq : ∀ w ∈ WA, ∀ x ∈ w, 97 ≤ x ∧ x ≤ 122) (ht : ∀ j, 0 ≤ j → j < 400 → -128 ≤ t j ∧ t j ≤ 127) (hu : ∀ j, 0 ≤ j → j < size → u j = ub (t j)) (hs : size ≤ 400) {f e : Int} (f0 : 0 ≤ f) (e1 : e ≤ size) {w : List Int} (hw : w ∈ WA) : isW u f e w = isW t f e w := by
  unfold isW
  by_cases c : e - f = (w.length : Int)
  · have key : (eqT u f w = true) ↔ (eqT t f w = true) := by
      rw [eqT_N, eqT_N]
      constructor
      · intro h i hi
        have := h i hi
        rw [hu _ (by omega) (by omega)] at this
        have hx := hq w hw (w.getD i 0) (by rw [List.getD_eq_getElem?_getD, List.getElem?_eq_getElem hi]; exact List.getElem_mem hi)
        have htt := ht (f + i) (by omega) (by omega)
        unfold ub at this
        split at this <;> omega
      · intro h i hi
        have := h i hi
        rw [hu _ (by omega) (by omega), ← this]
        have hx := hq w hw (w.getD i 0) (by rw [List.getD_eq_getElem?_getD, List.getElem?_eq_getElem hi]; exact List.getElem_mem hi)
        unfold ub
        rw [if_neg (by omega)]
    have k2 : eqT u f w = eqT t f w := by
      cases h1 : eqT u f w <;> cases h2 : eqT t f w
      · rfl
      · exact absurd (key.mpr h2) (by rw [h1]; decide)
      · exact absurd (key.mp h1) (by rw [h2]; decide)
      · rfl
    rw [k2]
  · rw [decide_eq_false c]
    rfl
theorem WA_l : ∀ w ∈ WA, ∀ x ∈ w, 97 ≤ x ∧ x ≤ 122 := by decide +kernel
theorem fnd_ub {m m' : List Int → Bool} : ∀ (ws : List (List Int)) (n : Int), (∀ w ∈ ws, m w = m' w) → fnd m 0 n ws = fnd m' 0 n ws
  | [], n, h => rfl
  | w :: ws, n, h => by
    unfold fnd
    rw [h w List.mem_cons_self, fnd_ub ws (n + 1) (fun x hx => h x (List.mem_cons_of_mem _ hx))]
theorem nmT_ub (ht : ∀ j, 0 ≤ j → j < 400 → -128 ≤ t j ∧ t j ≤ 127) (hu : ∀ j, 0 ≤ j → j < size → u j = ub (t j)) (hs : size ≤ 400) : ∀ (m : Nat) (k v : Int), 0 ≤ k → k + m ≤ size → (∀ i, k ≤ i → i < k + m → isDg (t i)) → nmT u m k v = nmT t m k v
  | 0, k, v, k0, k1, h => rfl
  | m + 1, k, v, k0, k1, h => by
    unfold nmT
    have hd := h k (by omega) (by omega)
    rw [hu k k0 (by omega), (ub_S (ht k k0 (by omega))).2.2.2.2 (by omega)]
    exact nmT_ub ht hu hs m (k + 1) _ (by omega) (by omega) (fun i a b => h i (by omega) (by omega))
theorem spT_ub (ht : ∀ j, 0 ≤ j → j < 400 → -128 ≤ t j ∧ t j ≤ 127) (hu : ∀ j, 0 ≤ j → j < size → u j = ub (t j)) (hs : size ≤ 400) : ∀ (m : Nat) (k : Int) (q : TKS), 0 ≤ k → spT u size m k q = spT t size m k q
  | 0, k, q, k0 => rfl
  | m + 1, k, q, k0 => by
    unfold spT
    by_cases c : size ≤ k
    · rw [if_pos c, if_pos c]
    rw [if_neg c, if_neg c]
    have e := ub_S (ht k k0 (by omega))
    have e2 := enT_ub ht hu hs k0 (show k < size by omega)
    have hen := enT_R (t := t) (size := size) (k := k) (by omega)
    by_cases c2 : t k = 32
    · rw [if_pos (by rw [hu k k0 (by omega)]; exact e.2.2.1.mpr c2), if_pos c2]
      exact spT_ub ht hu hs m (k + 1) q (by omega)
    · rw [if_neg (by rw [hu k k0 (by omega)]; exact fun q => c2 (e.2.2.1.mp q)), if_neg c2, e2]
      have ec : cdT u size k = cdT t size k := by
        unfold cdT
        rw [hu k k0 (by omega), e2]
        by_cases s1 : isS (t k)
        · rw [if_pos (e.1.mpr s1), if_pos s1]
          exact fnd_ub WA 1 (fun w hw => eqT_ub WA_l ht hu hs k0 hen.2 hw)
        · rw [if_neg (fun q => s1 (e.1.mp q)), if_neg s1]
          by_cases s2 : isDg (t k)
          · rw [if_pos (e.2.1.mpr s2), if_pos s2]
          · rw [if_neg (fun q => s2 (e.2.1.mp q)), if_neg s2, e.2.2.2.1]
      have ev : vlT u size k = vlT t size k := by
        unfold vlT
        rw [hu k k0 (by omega), e2]
        by_cases s2 : isDg (t k)
        · rw [if_pos (e.2.1.mpr s2), if_pos s2]
          exact nmT_ub ht hu hs _ k 0 k0 (by omega) (fun i a b => enT_dg (size := size) s2 i a (by omega))
        · rw [if_neg (fun q => s2 (e.2.1.mp q)), if_neg s2]
      rw [ec, ev]
      exact spT_ub ht hu hs m _ _ (by omega)
theorem tkz_ub (ht : ∀ j, 0 ≤ j → j < 400 → -128 ≤ t j ∧ t j ≤ 127) (hu : ∀ j, 0 ≤ j → j < size → u j = ub (t j)) (hs : size ≤ 400) (q : TKS) : tkz u size q = tkz t size q := by
  unfold tkz
  rw [spT_ub ht hu hs 400 0 (0, q.2) (by omega)]
end UB
