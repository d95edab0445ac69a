/-! PURE WORDS: kinds, pairs, depths -/
def kd (s : Int) : Int := if 6 ≤ s then -1 else s.tmod 3
theorem kd_R {s : Int} (h : 0 ≤ s) : R32 (kd s) := by
  unfold kd
  split
  · exact ⟨by decide, by decide⟩
  · have h1 := Int.tmod_nonneg 3 h
    have h2 := Int.tmod_lt_of_pos s (show (0 : Int) < 3 by decide)
    omega
theorem kd_op {s : Int} (h0 : 0 ≤ s) (h : s < 3) : kd s = s := by
  unfold kd
  rw [if_neg (by omega), Int.tmod_eq_of_lt h0 h]
/-- one place: how many are open, how many loose, what is paired with what, the open ones -/
def prS (K : Int → Int) (p many loose : Int) (po op : Int → Int) : Int × Int × (Int → Int) × (Int → Int) :=
  if K (1 + p) < 3 then (many + 1, loose, up po p (-1), up op many p)
  else if (3 ≤ K (1 + p) ∧ K (1 + p) ≤ 5) ∧ 0 < many ∧ kd (K (1 + op (many - 1))) = kd (K (1 + p)) then (many - 1, loose, up (up (up po p (-1)) p (op (many - 1))) (op (many - 1)) p, op)
  else if 3 ≤ K (1 + p) ∧ K (1 + p) ≤ 5 then (many, loose + 1, up po p (-1), op)
  else (many, loose, up po p (-1), op)
def prs (K : Int → Int) : Nat → Int → Int × Int × (Int → Int) × (Int → Int) → Int × Int × (Int → Int) × (Int → Int)
  | 0, _, q => q
  | n + 1, p, q => prs K n (p + 1) (prS K p q.1 q.2.1 q.2.2.1 q.2.2.2)
theorem prS_R {K : Int → Int} {p many loose : Int} {po op : Int → Int} (h1 : 0 ≤ many) (h2 : 0 ≤ loose) : 0 ≤ (prS K p many loose po op).1 ∧ 0 ≤ (prS K p many loose po op).2.1 ∧ (prS K p many loose po op).1 + (prS K p many loose po op).2.1 ≤ many + loose + 1 := by
  unfold prS
  split
  · exact ⟨by simp; omega, by simp; omega, by simp; omega⟩
  · split
    · exact ⟨by simp; omega, by simp; omega, by simp; omega⟩
    · split
      · exact ⟨by simp; omega, by simp; omega, by simp; omega⟩
      · exact ⟨by simp; omega, by simp; omega, by simp; omega⟩
theorem prs_R {K : Int → Int} : ∀ (n : Nat) (p : Int) (q : Int × Int × (Int → Int) × (Int → Int)), 0 ≤ q.1 → 0 ≤ q.2.1 → 0 ≤ (prs K n p q).1 ∧ 0 ≤ (prs K n p q).2.1 ∧ (prs K n p q).1 + (prs K n p q).2.1 ≤ q.1 + q.2.1 + n
  | 0, p, q, h1, h2 => ⟨h1, h2, by simp [prs]⟩
  | n + 1, p, q, h1, h2 => by
    obtain ⟨a1, a2, a3⟩ := prS_R (K := K) (p := p) (po := q.2.2.1) (op := q.2.2.2) h1 h2
    obtain ⟨b1, b2, b3⟩ := prs_R n (p + 1) _ a1 a2
    refine ⟨b1, b2, ?_⟩
    show (prs K n (p + 1) _).1 + (prs K n (p + 1) _).2.1 ≤ _
    omega
/-- the pairs of a run -/
def prR (K : Int → Int) (a b : Int) (po op : Int → Int) : Int × Int × (Int → Int) × (Int → Int) := prs K (b - a).toNat a (0, 0, po, op)
theorem prR_R {K : Int → Int} {a b : Int} {po op : Int → Int} (h1 : 0 ≤ a) (h2 : b ≤ 20) : 0 ≤ (prR K a b po op).1 ∧ 0 ≤ (prR K a b po op).2.1 ∧ (prR K a b po op).2.1 + (prR K a b po op).1 ≤ 20 := by
  obtain ⟨b1, b2, b3⟩ := prs_R (K := K) (b - a).toNat a (0, 0, po, op) (Int.le_refl 0) (Int.le_refl 0)
  refine ⟨b1, b2, ?_⟩
  show (prs K (b - a).toNat a (0, 0, po, op)).2.1 + (prs K (b - a).toNat a (0, 0, po, op)).1 ≤ 20
  simp only at b3
  omega
/-- how many of the first k lie open ahead of p -/
def dpc (m : Int → Int) (p : Int) : Nat → Int
  | 0 => 0
  | k + 1 => dpc m p k + (if p < m (k : Int) then 1 else 0)
theorem dpc_s {m : Int → Int} {p q : Int} (h : 0 ≤ q) : dpc m p (q + 1).toNat = dpc m p q.toNat + (if p < m q then 1 else 0) := by
  have e : (q + 1).toNat = q.toNat + 1 := by omega
  rw [e]
  show dpc m p q.toNat + (if p < m ((q.toNat : Nat) : Int) then 1 else 0) = _
  rw [Int.toNat_of_nonneg h]
theorem dpc_R {m : Int → Int} {p : Int} : ∀ k : Nat, 0 ≤ dpc m p k ∧ dpc m p k ≤ k
  | 0 => ⟨Int.le_refl 0, Int.le_refl 0⟩
  | k + 1 => by
    obtain ⟨h1, h2⟩ := dpc_R (m := m) (p := p) k
    unfold dpc
    split <;> omega
theorem cpy_lo {x z : Int → Int} {sp dp n k : Int} (h : k < dp) : cpy x z sp dp n k = z k := by
  unfold cpy
  rw [if_neg (by omega)]
theorem cpy_hi {x z : Int → Int} {sp dp n k : Int} (h : dp + n ≤ k) : cpy x z sp dp n k = z k := by
  unfold cpy
  rw [if_neg (by omega)]
theorem cpy_in {x z : Int → Int} {sp dp n k : Int} (h : dp ≤ k) (h2 : k < dp + n) : cpy x z sp dp n k = x (sp + (k - dp)) := by
  unfold cpy
  rw [if_pos ⟨h, h2⟩]
/-- going down -/
theorem cpy_d {x : Int → Int} {a b c m e v : Int} (h : 0 ≤ m) (e1 : b = a + 1) (e2 : c = b + 1) (e3 : e = b) (e4 : v = x a) : up (cpy x x b c m) e v = cpy x x a b (m + 1) := by
  subst e1 e2 e3 e4
  funext k
  unfold up cpy
  by_cases hk : k = a + 1
  · rw [if_pos hk, if_pos (by omega)]
    congr 1
    omega
  · rw [if_neg hk]
    by_cases h1 : a + 1 + 1 ≤ k ∧ k < a + 1 + 1 + m
    · rw [if_pos h1, if_pos (by omega)]
      congr 1
      omega
    · rw [if_neg h1, if_neg (by omega)]
/-- a sign put, a sign cut, in the reference's row -/
def putK (K : Int → Int) (s p : Int) : Int → Int := up (up (cpy K K (1 + p) (2 + p) (K 0 - p)) (1 + p) s) 0 (K 0 + 1)
def cutK (K : Int → Int) (p : Int) : Int → Int := up (cpy (up K 0 (K 0 - 1)) (up K 0 (K 0 - 1)) (2 + p) (1 + p) (K 0 - 1 - p)) (1 + (K 0 - 1)) 0
/-- what can be undone: the eldest forgotten if there are 16 -/
def shL (Z : Int → Int) (u : Int) : Int → Int := if u = 16 then cpy Z Z 23 0 345 else Z
def shU (u : Int) : Int := if u = 16 then 15 else u
def kpL (K Z : Int → Int) (u what : Int) : Int → Int := up (cpy K (shL Z u) 0 (23 * shU u) 22) (23 * shU u + 22) what
/-- wrapped around once -/
def wr (a : Int) : Int := if a < -2147483648 then a + 4294967296 else if 2147483648 ≤ a then a - 4294967296 else a
theorem ii_w (a : Int) : ii (a + 4294967296) = ii a := by rw [← ii_add, show ii 4294967296 = 0 by decide]; simp
theorem ii_wr (a : Int) : ii a = ii (wr a) := by
  unfold wr
  split
  · exact (ii_w a).symm
  · split
    · rw [show a = a - 4294967296 + 4294967296 by omega, ii_w]
      congr 1
      omega
    · rfl
theorem wr_or (a : Int) : (wr a = a ∧ R32 a) ∨ (a < -2147483648 ∧ wr a = a + 4294967296) ∨ (2147483648 ≤ a ∧ wr a = a - 4294967296) := by
  unfold wr
  split
  · right; left; omega
  · split
    · right; right; omega
    · left; omega
