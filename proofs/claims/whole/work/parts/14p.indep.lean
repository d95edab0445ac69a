/-! PURE: what pairs tell doesn't hang on what stood in the rows before -/
theorem prS_ind {K : Int → Int} {p many loose a : Int} {po op po' op' : Int → Int} (h0 : 0 ≤ many) (ho : ∀ j, 0 ≤ j → j < many → op j = op' j ∧ a ≤ op j ∧ op j < p) (hp : ∀ q, a ≤ q → q < p → po q = po' q) (ha : a ≤ p) :
    (prS K p many loose po op).1 = (prS K p many loose po' op').1 ∧ (prS K p many loose po op).2.1 = (prS K p many loose po' op').2.1 ∧ 0 ≤ (prS K p many loose po op).1 ∧
    (∀ j, 0 ≤ j → j < (prS K p many loose po op).1 → (prS K p many loose po op).2.2.2 j = (prS K p many loose po' op').2.2.2 j ∧ a ≤ (prS K p many loose po op).2.2.2 j ∧ (prS K p many loose po op).2.2.2 j < p + 1) ∧
    (∀ q, a ≤ q → q < p + 1 → (prS K p many loose po op).2.2.1 q = (prS K p many loose po' op').2.2.1 q) := by
  have hup : ∀ q, a ≤ q → q < p + 1 → up po p (-1) q = up po' p (-1) q := by
    intro q h1 h2
    by_cases e : q = p
    · rw [e, up_eq, up_eq]
    · rw [up_ne e, up_ne e]
      exact hp q h1 (by omega)
  have hold : ∀ j, 0 ≤ j → j < many → op j = op' j ∧ a ≤ op j ∧ op j < p + 1 := fun j h1 h2 => by
    have := ho j h1 h2
    exact ⟨this.1, this.2.1, by omega⟩
  by_cases c1 : K (1 + p) < 3
  · simp only [prS, if_pos c1]
    refine ⟨trivial, trivial, by omega, fun j h1 h2 => ?_, hup⟩
    by_cases e : j = many
    · rw [e, up_eq, up_eq]
      exact ⟨rfl, ha, by omega⟩
    · rw [up_ne e, up_ne e]
      exact hold j h1 (by omega)
  · by_cases c2 : 3 ≤ K (1 + p) ∧ K (1 + p) ≤ 5
    · by_cases c3 : 0 < many
      · have hm := ho (many - 1) (by omega) (by omega)
        by_cases c4 : kd (K (1 + op (many - 1))) = kd (K (1 + p))
        · have d1 : (3 ≤ K (1 + p) ∧ K (1 + p) ≤ 5) ∧ 0 < many ∧ kd (K (1 + op (many - 1))) = kd (K (1 + p)) := ⟨c2, c3, c4⟩
          have d2 : (3 ≤ K (1 + p) ∧ K (1 + p) ≤ 5) ∧ 0 < many ∧ kd (K (1 + op' (many - 1))) = kd (K (1 + p)) := ⟨c2, c3, by rw [← hm.1]; exact c4⟩
          simp only [prS, if_neg c1, if_pos d1, if_pos d2]
          refine ⟨trivial, trivial, by omega, fun j h1 h2 => hold j h1 (by omega), fun q h1 h2 => ?_⟩
          rw [← hm.1]
          by_cases e : q = op (many - 1)
          · rw [e, up_eq, up_eq]
          · rw [up_ne e, up_ne e]
            by_cases e2 : q = p
            · rw [e2, up_eq, up_eq]
            · rw [up_ne (x := up po p (-1)) e2, up_ne (x := up po' p (-1)) e2]
              exact hup q h1 h2
        · have d1 : ¬ ((3 ≤ K (1 + p) ∧ K (1 + p) ≤ 5) ∧ 0 < many ∧ kd (K (1 + op (many - 1))) = kd (K (1 + p))) := fun q => c4 q.2.2
          have d2 : ¬ ((3 ≤ K (1 + p) ∧ K (1 + p) ≤ 5) ∧ 0 < many ∧ kd (K (1 + op' (many - 1))) = kd (K (1 + p))) := fun q => c4 (by rw [hm.1]; exact q.2.2)
          simp only [prS, if_neg c1, if_neg d1, if_neg d2, if_pos c2]
          exact ⟨trivial, trivial, h0, hold, hup⟩
      · have d1 : ¬ ((3 ≤ K (1 + p) ∧ K (1 + p) ≤ 5) ∧ 0 < many ∧ kd (K (1 + op (many - 1))) = kd (K (1 + p))) := fun q => c3 q.2.1
        have d2 : ¬ ((3 ≤ K (1 + p) ∧ K (1 + p) ≤ 5) ∧ 0 < many ∧ kd (K (1 + op' (many - 1))) = kd (K (1 + p))) := fun q => c3 q.2.1
        simp only [prS, if_neg c1, if_neg d1, if_neg d2, if_pos c2]
        exact ⟨trivial, trivial, h0, hold, hup⟩
    · have d1 : ¬ ((3 ≤ K (1 + p) ∧ K (1 + p) ≤ 5) ∧ 0 < many ∧ kd (K (1 + op (many - 1))) = kd (K (1 + p))) := fun q => c2 q.1
      have d2 : ¬ ((3 ≤ K (1 + p) ∧ K (1 + p) ≤ 5) ∧ 0 < many ∧ kd (K (1 + op' (many - 1))) = kd (K (1 + p))) := fun q => c2 q.1
      simp only [prS, if_neg c1, if_neg d1, if_neg d2, if_neg c2]
      exact ⟨trivial, trivial, h0, hold, hup⟩
theorem prs_ind {K : Int → Int} {a : Int} : ∀ (n : Nat) (p many loose : Int) (po op po' op' : Int → Int), 0 ≤ many → (∀ j, 0 ≤ j → j < many → op j = op' j ∧ a ≤ op j ∧ op j < p) → (∀ q, a ≤ q → q < p → po q = po' q) → a ≤ p →
    (prs K n p (many, loose, po, op)).1 = (prs K n p (many, loose, po', op')).1 ∧ (prs K n p (many, loose, po, op)).2.1 = (prs K n p (many, loose, po', op')).2.1 ∧ (∀ q, a ≤ q → q < p + n → (prs K n p (many, loose, po, op)).2.2.1 q = (prs K n p (many, loose, po', op')).2.2.1 q)
  | 0, p, many, loose, po, op, po', op', h0, ho, hp, ha => ⟨rfl, rfl, fun q h1 h2 => hp q h1 (by simpa using h2)⟩
  | n + 1, p, many, loose, po, op, po', op', h0, ho, hp, ha => by
    obtain ⟨e1, e2, e3, e4, e5⟩ := prS_ind (K := K) (loose := loose) h0 ho hp ha
    have ih := prs_ind (K := K) (a := a) n (p + 1) (prS K p many loose po op).1 (prS K p many loose po op).2.1 (prS K p many loose po op).2.2.1 (prS K p many loose po op).2.2.2 (prS K p many loose po' op').2.2.1 (prS K p many loose po' op').2.2.2 e3 e4 e5 (by omega)
    have e6 : prS K p many loose po' op' = ((prS K p many loose po op).1, (prS K p many loose po op).2.1, (prS K p many loose po' op').2.2.1, (prS K p many loose po' op').2.2.2) := by rw [e1, e2]
    refine ⟨?_, ?_, fun q h1 h2 => ?_⟩
    · show (prs K n (p + 1) (prS K p many loose po op)).1 = (prs K n (p + 1) (prS K p many loose po' op')).1
      rw [e6]
      exact ih.1
    · show (prs K n (p + 1) (prS K p many loose po op)).2.1 = (prs K n (p + 1) (prS K p many loose po' op')).2.1
      rw [e6]
      exact ih.2.1
    · show (prs K n (p + 1) (prS K p many loose po op)).2.2.1 q = (prs K n (p + 1) (prS K p many loose po' op')).2.2.1 q
      rw [e6]
      exact ih.2.2 q h1 (by omega)
def z0 : Int → Int := fun _ => 0
/-- how many are loose in a run; whether it is whole; the mate of a place of the row; how deep it lies -/
def lo (K : Int → Int) (a b : Int) : Int := (prR K a b z0 z0).2.1 + (prR K a b z0 z0).1
def mt (K : Int → Int) (q : Int) : Int := (prR K 0 (K 0) z0 z0).2.2.1 q
def dp (K : Int → Int) (p : Int) : Int := dpc (mt K) p p.toNat
theorem lo_eq {K : Int → Int} {a b : Int} (po op : Int → Int) : (prR K a b po op).2.1 + (prR K a b po op).1 = lo K a b := by
  obtain ⟨h1, h2, -⟩ := prs_ind (K := K) (a := a) (b - a).toNat a 0 0 po op z0 z0 (Int.le_refl 0) (fun j h1 h2 => by omega) (fun q h1 h2 => by omega) (Int.le_refl a)
  unfold lo prR
  rw [h1, h2]
theorem mt_eq {K : Int → Int} (po op : Int → Int) {q : Int} (h0 : 0 ≤ q) (h1 : q < K 0) : (prR K 0 (K 0) po op).2.2.1 q = mt K q := by
  obtain ⟨-, -, h3⟩ := prs_ind (K := K) (a := 0) (K 0 - 0).toNat 0 0 0 po op z0 z0 (Int.le_refl 0) (fun j h1 h2 => by omega) (fun q h1 h2 => by omega) (Int.le_refl 0)
  exact h3 q h0 (by omega)
theorem dpc_congr {m m' : Int → Int} {p : Int} : ∀ (k : Nat), (∀ q : Int, 0 ≤ q → q < k → m q = m' q) → dpc m p k = dpc m' p k
  | 0, _ => rfl
  | k + 1, h => by
    unfold dpc
    rw [dpc_congr k (fun q h1 h2 => h q h1 (by omega)), h k (by omega) (by omega)]
theorem dp_eq {K : Int → Int} (po op : Int → Int) {p : Int} (h0 : 0 ≤ p) (h1 : p ≤ K 0) : dpc (prR K 0 (K 0) po op).2.2.1 p p.toNat = dp K p :=
  dpc_congr _ (fun q a1 a2 => mt_eq po op a1 (by omega))
theorem lo_R {K : Int → Int} {a b : Int} (h1 : 0 ≤ a) (h2 : b ≤ 20) : 0 ≤ lo K a b ∧ lo K a b ≤ 20 := by
  obtain ⟨b1, b2, b3⟩ := prR_R (K := K) (po := z0) (op := z0) h1 h2
  unfold lo
  omega
/-- mates are places, or -1 -/
theorem prs_mt {K : Int → Int} {a : Int} : ∀ (n : Nat) (p many loose : Int) (po op : Int → Int), 0 ≤ many → (∀ j, 0 ≤ j → j < many → a ≤ op j ∧ op j < p) → (∀ q, a ≤ q → q < p → -1 ≤ po q ∧ po q < p + n) → a ≤ p → 0 ≤ a → ∀ q, a ≤ q → q < p + n → -1 ≤ (prs K n p (many, loose, po, op)).2.2.1 q ∧ (prs K n p (many, loose, po, op)).2.2.1 q < p + n
  | 0, p, many, loose, po, op, h0, ho, hp, ha, h00 => fun q h1 h2 => hp q h1 (by simpa using h2)
  | n + 1, p, many, loose, po, op, h0, ho, hp, ha, h00 => by
    intro q h1 h2
    show -1 ≤ (prs K n (p + 1) (prS K p many loose po op)).2.2.1 q ∧ (prs K n (p + 1) (prS K p many loose po op)).2.2.1 q < _
    obtain ⟨-, -, e3, e4, -⟩ := prS_ind (K := K) (loose := loose) (po := po) (po' := po) (op' := op) h0 (fun j q1 q2 => ⟨rfl, ho j q1 q2⟩) (fun _ _ _ => rfl) ha
    have key : ∀ q, a ≤ q → q < p + 1 → -1 ≤ (prS K p many loose po op).2.2.1 q ∧ (prS K p many loose po op).2.2.1 q < p + 1 + n := by
      intro q q1 q2
      have hup : -1 ≤ up po p (-1) q ∧ up po p (-1) q < p + 1 + n := by
        by_cases e : q = p
        · rw [e, up_eq]; omega
        · rw [up_ne e]
          have := hp q q1 (by omega)
          omega
      unfold prS
      split
      · exact hup
      · split
        · next c =>
          have hm := ho (many - 1) (by omega) (by omega)
          show -1 ≤ up (up (up po p (-1)) p (op (many - 1))) (op (many - 1)) p q ∧ up (up (up po p (-1)) p (op (many - 1))) (op (many - 1)) p q < _
          by_cases e : q = op (many - 1)
          · rw [e, up_eq]; omega
          · rw [up_ne e]
            by_cases e2 : q = p
            · rw [e2, up_eq]; omega
            · rw [up_ne e2]; exact hup
        · split
          · exact hup
          · exact hup
    obtain ⟨u1, u2⟩ := prs_mt (K := K) (a := a) n (p + 1) _ (prS K p many loose po op).2.1 _ _ e3 (fun j q1 q2 => (e4 j q1 q2).2) key (by omega) h00 q h1 (by omega)
    have u3 : (prs K n (p + 1) (prS K p many loose po op)).2.2.1 q < p + 1 + n := u2
    exact ⟨u1, by omega⟩
theorem mt_R {K : Int → Int} (hn : K 0 ≤ 20) (po op : Int → Int) {q : Int} (h0 : 0 ≤ q) (h1 : q < K 0) : -1 ≤ (prR K 0 (K 0) po op).2.2.1 q ∧ (prR K 0 (K 0) po op).2.2.1 q < 20 := by
  have := prs_mt (K := K) (a := 0) (K 0 - 0).toNat 0 0 0 po op (Int.le_refl 0) (fun j a b => by omega) (fun q a b => by omega) (Int.le_refl 0) (Int.le_refl 0) q h0 (by omega)
  unfold prR
  omega
