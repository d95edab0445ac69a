/-! PURE: least of runs -/
theorem mnF_min0 {f : Int → Int} : ∀ (n : Nat) (q x y : Int), mnF f n q (min x y) = min x (mnF f n q y)
  | 0, q, x, y => rfl
  | n + 1, q, x, y => by
    show mnF f n (q + 1) (min (min x y) (f q)) = min x (mnF f n (q + 1) (min y (f q)))
    rw [show min (min x y) (f q) = min x (min y (f q)) by omega]
    exact mnF_min0 n (q + 1) x _
theorem mnF_cl {f f2 : Int → Int} {far : Int} : ∀ (n : Nat) (q x : Int), x ≤ far → (∀ j, q ≤ j → j < q + n → min far (f j) = min far (f2 j)) → mnF f n q x = mnF f2 n q x
  | 0, q, x, _, _ => rfl
  | n + 1, q, x, hx, h => by
    show mnF f n (q + 1) (min x (f q)) = mnF f2 n (q + 1) (min x (f2 q))
    have h0 := h q (by omega) (by omega)
    rw [show min x (f q) = min x (f2 q) by omega]
    exact mnF_cl n (q + 1) _ (by omega) (fun j j0 j1 => h j (by omega) (by omega))
theorem mnF_2 {f f2 : Int → Int} : ∀ (n : Nat) (q x : Int), mnF (fun j => min (f j) (f2 j)) n q x = mnF f n q (mnF f2 n q x)
  | 0, q, x => rfl
  | n + 1, q, x => by
    show mnF (fun j => min (f j) (f2 j)) n (q + 1) (min x (min (f q) (f2 q))) = mnF f n (q + 1) (min (mnF f2 n (q + 1) (min x (f2 q))) (f q))
    rw [mnF_2 n (q + 1), show min x (min (f q) (f2 q)) = min (f q) (min x (f2 q)) by omega, mnF_min0, Int.min_comm (f q)]
theorem mnF_last {f : Int → Int} : ∀ (n : Nat) (q x : Int), mnF f (n + 1) q x = min (mnF f n q x) (f (q + n))
  | 0, q, x => by
    show min x (f q) = min x (f (q + ((0 : Nat) : Int)))
    rw [show q + ((0 : Nat) : Int) = q by omega]
  | n + 1, q, x => by
    show mnF f (n + 1) (q + 1) (min x (f q)) = min (mnF f n (q + 1) (min x (f q))) (f (q + ((n + 1 : Nat) : Int)))
    rw [mnF_last n (q + 1), show q + ((n + 1 : Nat) : Int) = q + 1 + (n : Int) by omega]
theorem mnF_far {f : Int → Int} {far : Int} : ∀ (n : Nat) (q x : Int), x ≤ far → (∀ j, q ≤ j → j < q + n → f j = far) → mnF f n q x = x
  | 0, q, x, _, _ => rfl
  | n + 1, q, x, hx, h => by
    show mnF f n (q + 1) (min x (f q)) = x
    rw [h q (by omega) (by omega), show min x far = x by omega]
    exact mnF_far n (q + 1) x hx (fun j j0 j1 => h j (by omega) (by omega))
theorem prd_iff {K : Int → Int} {a q : Int} (h0 : 0 ≤ K (1 + a)) (h1 : K (1 + a) < 3) (q0 : 0 ≤ K (1 + q)) : prd K a q ↔ K (1 + q) = K (1 + a) + 3 := by
  constructor
  · intro ⟨z1, z2, z3⟩
    rw [kd_op h0 h1, kd_op3 z2.1 z2.2] at z3
    omega
  · intro z
    refine ⟨h1, by omega, ?_⟩
    rw [kd_op h0 h1, kd_op3 (by omega) (by omega)]
    omega
theorem moR_eq {K rs : Int → Int} {pr be c T : Int → Int → Int} {n a b : Int} (a0 : 0 ≤ a) (ab : a < b) (bn : b ≤ n) (hs : ∀ j, 0 ≤ j → j < n → rs j = K (1 + j) ∧ 0 ≤ rs j ∧ rs j ≤ 11) (hc : ∀ s p, 0 ≤ s → s < 6 → 0 ≤ p → p ≤ n → cB pr s p = c s p) (hb : ∀ i j, a ≤ i → i ≤ j → j ≤ b → (i = a → j < b) → be i j = T i j) (ho : rs a < 3) : moR rs pr be a b = mdO K c 100000000 T a b := by
  have hsa := hs a a0 (by omega)
  have hk : c (3 + kd (K (1 + a))) = c (rs a + 3) := by rw [kd_op (by omega) (by omega), show 3 + K (1 + a) = rs a + 3 by omega]
  unfold moR mdO mdP
  rw [mnF_cl (far := 100000000) (f2 := fun q => min (T (a + 1) q + c (3 + kd (K (1 + a))) q + T q b) (if q < b ∧ prd K a q then T (a + 1) q + T (q + 1) b else 100000000)) _ _ _ (by omega) ?_, mnF_2]
  · congr 1
    rw [show (b + 1 - (a + 1)).toNat = (b - (a + 1)).toNat + 1 by omega, mnF_last, show a + 1 + (((b - (a + 1)).toNat : Nat) : Int) = b by omega, if_neg (fun z => by omega)]
    have e : mnF (fun q => if q < b ∧ prd K a q then T (a + 1) q + T (q + 1) b else 100000000) (b - (a + 1)).toNat (a + 1) 100000000 = mnF (fun q => if prd K a q then T (a + 1) q + T (q + 1) b else 100000000) (b - (a + 1)).toNat (a + 1) 100000000 := by
      refine mnF_congr _ _ _ (fun j j0 j1 => ?_)
      by_cases z : prd K a j
      · rw [if_pos z, if_pos ⟨by omega, z⟩]
      · rw [if_neg z, if_neg (fun w => z w.2)]
    rw [e]
    have hle := (mnF_le (f := fun q => if prd K a q then T (a + 1) q + T (q + 1) b else 100000000) (b - (a + 1)).toNat (a + 1) 100000000).1
    omega
  · intro q q0 q1
    have q2 : q ≤ b := by omega
    unfold moG
    rw [hc (rs a + 3) q (by omega) (by omega) (by omega) (by omega), hb (a + 1) q (by omega) (by omega) q2 (by omega), hb q b (by omega) q2 (by omega) (by omega), hk]
    by_cases z : q < b
    · have hsq := hs q (by omega) (by omega)
      have hp := prd_iff (K := K) (a := a) (q := q) (by omega) (by omega) (by omega)
      rw [hb (q + 1) b (by omega) (by omega) (by omega) (by omega)]
      by_cases w : K (1 + q) = K (1 + a) + 3
      · rw [if_pos ⟨z, by omega⟩, if_pos ⟨z, hp.mpr w⟩]
      · rw [if_neg (fun u => by omega), if_neg (fun u => w (hp.mp u.2))]
        omega
    · rw [if_neg (fun u => z u.1), if_neg (fun u => z u.1)]
      omega
theorem mrR_eq {K rs : Int → Int} {pr be c T : Int → Int → Int} {n a b : Int} (a0 : 0 ≤ a) (ab : a < b) (bn : b ≤ n) (hs : ∀ j, 0 ≤ j → j < n → rs j = K (1 + j) ∧ 0 ≤ rs j ∧ rs j ≤ 11) (hc : ∀ s p, 0 ≤ s → s < 6 → 0 ≤ p → p ≤ n → cB pr s p = c s p) (hb : ∀ i j, a ≤ i → i ≤ j → j ≤ b → (i = a → j < b) → be i j = T i j) (hT : T (a + 1) b ≤ 100000000) : mrR rs pr be a b = mdS K c 100000000 T a b := by
  have hsa := hs a a0 (by omega)
  have hA : mnF (mrG rs pr be a b) (b - a).toNat a 100000000 = mdA K c 100000000 T a b := by
    unfold mdA
    refine mnF_congr _ _ _ (fun q q0 q1 => ?_)
    have hsq := hs q (by omega) (by omega)
    unfold mrG
    by_cases z : clo K q
    · have hk := kd_op3 z.1 z.2
      rw [if_pos z, if_pos (by omega), hsq.1, hc _ a (by omega) (by omega) a0 (by omega), hb a q (by omega) q0 (by omega) (by omega), hb (q + 1) b (by omega) (by omega) (by omega) (by omega)]
    · rw [if_neg z, if_neg (fun u => z ⟨by omega, by omega⟩)]
  have hI : ∀ I, I ≤ 100000000 → mnF (mrG rs pr be a b) (b - a).toNat a I = min I (mdA K c 100000000 T a b) := by
    intro I h
    rw [← hA, ← mnF_min0, show min I 100000000 = I by omega]
  unfold mrR mdS mrI
  have hle : moR rs pr be a b ≤ 100000000 := (mnF_le (f := moG rs pr be a b) (b + 1 - (a + 1)).toNat (a + 1) 100000000).1
  by_cases c6 : 6 ≤ rs a
  · rw [if_pos c6, hb (a + 1) b (by omega) (by omega) (by omega) (by omega), hI _ hT, if_neg (by omega), if_pos (by omega)]
    omega
  · rw [if_neg c6]
    by_cases c3 : rs a < 3
    · rw [if_pos c3, if_pos (by omega), hI _ hle, moR_eq a0 ab bn hs hc hb c3]
      omega
    · rw [if_neg c3, if_neg (by omega), if_neg (by omega), hI _ (by omega)]
      omega
theorem moR_R {rs : Int → Int} {pr be : Int → Int → Int} {n a b : Int} (a0 : 0 ≤ a) (ab : a < b) (bn : b ≤ n) (hs : 0 ≤ rs a ∧ rs a < 3) (hP : ∀ s p, 0 ≤ s → s < 6 → 0 ≤ p → p ≤ n → 0 ≤ pr s p ∧ (pr s p ≤ 99 ∨ pr s p = 100000000)) (hB : ∀ i j, a ≤ i → i ≤ j → j ≤ b → (i = a → j < b) → 0 ≤ be i j ∧ be i j ≤ 100000000) : 0 ≤ moR rs pr be a b ∧ moR rs pr be a b ≤ 100000000 := by
  refine ⟨?_, (mnF_le _ _ _).1⟩
  refine mnF_ge (by omega) (fun q q0 q1 => ?_)
  have hcb := cB_R (hP (rs a + 3) q (by omega) (by omega) (by omega) (by omega))
  have h1 := hB (a + 1) q (by omega) (by omega) (by omega) (by omega)
  have h2 := hB q b (by omega) (by omega) (by omega) (by omega)
  unfold moG
  split
  · next z =>
    have h3 := hB (q + 1) b (by omega) (by omega) (by omega) (by omega)
    omega
  · omega
theorem srR_eq {K rs sq : Int → Int} {be T : Int → Int → Int} {n a b : Int} (a0 : 0 ≤ a) (ab : a < b) (bn : b ≤ n) (hs : ∀ j, 0 ≤ j → j < n → rs j = K (1 + j) ∧ 0 ≤ rs j ∧ rs j ≤ 11) (hb : ∀ i j, a ≤ i → i ≤ j → j ≤ b → (i = a → j < b) → be i j = T i j) (hT : T (a + 1) b ≤ 1980) (hw : 0 ≤ sq a ∧ sq a ≤ 99) : srR rs sq be a b = stS K sq T a b := by
  have hsa := hs a a0 (by omega)
  unfold srR stS
  rw [hb (a + 1) b (by omega) (by omega) (by omega) (by omega), hsa.1]
  by_cases c3 : K (1 + a) < 3
  · rw [if_pos c3]
    refine mnF_congr _ _ _ (fun q q0 q1 => ?_)
    have hsq := hs q (by omega) (by omega)
    have hp := prd_iff (K := K) (a := a) (q := q) (by omega) (by omega) (by omega)
    unfold srG
    rw [hb (a + 1) q (by omega) (by omega) (by omega) (by omega), hb (q + 1) b (by omega) (by omega) (by omega) (by omega)]
    by_cases w : K (1 + q) = K (1 + a) + 3
    · rw [if_pos (by omega), if_pos (hp.mpr w)]
    · rw [if_neg (by omega), if_neg (fun u => w (hp.mp u))]
  · rw [if_neg c3]
    refine (mnF_far (far := 1000000) _ _ _ ?_ (fun q q0 q1 => if_neg (fun u => c3 u.1))).symm
    split <;> omega
theorem fsF_congr {A B : Int → Prop} [DecidablePred A] [DecidablePred B] : ∀ (n : Nat) (q : Int), (∀ j, q ≤ j → j < q + n → (A j ↔ B j)) → fsF A n q = fsF B n q
  | 0, q, _ => rfl
  | n + 1, q, h => by
    unfold fsF
    have h0 := h q (by omega) (by omega)
    by_cases z : A q
    · rw [if_pos z, if_pos (h0.mp z)]
    · rw [if_neg z, if_neg (fun w => z (h0.mpr w))]
      exact fsF_congr n (q + 1) (fun j j0 j1 => h j (by omega) (by omega))
theorem cmR_eq {K rs : Int → Int} {be : Int → Int → Int} {n a b : Int} (a0 : 0 ≤ a) (ab : a < b) (bn : b ≤ n) (hs : ∀ j, 0 ≤ j → j < n → rs j = K (1 + j) ∧ 0 ≤ rs j ∧ rs j ≤ 11) (hb : ∀ i j, 0 ≤ i → i ≤ j → j ≤ n → be i j = ST K i j) (ho : rs a < 3) : cmR rs be a b = mtS K a b := by
  have hsa := hs a a0 (by omega)
  unfold cmR mtS
  refine fsF_congr _ _ (fun q q0 q1 => ?_)
  have hsq := hs q (by omega) (by omega)
  have hp := prd_iff (K := K) (a := a) (q := q) (by omega) (by omega) (by omega)
  unfold cmP mtP
  rw [hb (a + 1) q (by omega) (by omega) (by omega), hb (q + 1) b (by omega) (by omega) bn, hb a b a0 (by omega) bn, hp, hsq.1, hsa.1]
/-- class's prices -/
def pB (K : Int → Int) (s p : Int) : Int := if tl K 4 s p 0 = 1 then 100000000 else tl K 1 s p 1
def MDb (K : Int → Int) : Int → Int → Int := iv (mdS K (cB (pB K)) 100000000)
theorem MDb_eq {K : Int → Int} {a b : Int} (h : a < b) : MDb K a b = mdS K (cB (pB K)) 100000000 (MDb K) a b := iv_eq mdS_loc h
theorem MDb_self {K : Int → Int} {a : Int} : MDb K a a = 0 := iv_self
