/-! WHOLE NUMBERS: an int is ii of an Int, a long ll of one; an array holds ia of a function of Ints -/
def ii (a : Int) : Int32 := Int32.ofInt a
def ll (a : Int) : Int64 := Int64.ofInt a
abbrev R32 (a : Int) : Prop := -2147483648 ≤ a ∧ a < 2147483648
abbrev R64 (a : Int) : Prop := -9223372036854775808 ≤ a ∧ a < 9223372036854775808
theorem ii_toInt {a : Int} (h : R32 a) : (ii a).toInt = a := Int32.toInt_ofInt_of_le (by simpa using h.1) (by simpa using h.2)
theorem ll_toInt {a : Int} (h : R64 a) : (ll a).toInt = a := Int64.toInt_ofInt_of_le (by simpa using h.1) (by simpa using h.2)
theorem ii_of (x : Int32) : ∃ a : Int, R32 a ∧ x = ii a := ⟨x.toInt, ⟨by simpa using x.le_toInt, by simpa using x.toInt_lt⟩, (Int32.ofInt_toInt x).symm⟩
theorem ll_of (x : Int64) : ∃ a : Int, R64 a ∧ x = ll a := ⟨x.toInt, ⟨by simpa using x.le_toInt, by simpa using x.toInt_lt⟩, (Int64.ofInt_toInt x).symm⟩
theorem ii_lt {a b : Int} (ha : R32 a) (hb : R32 b) : ii a < ii b ↔ a < b := by rw [Int32.lt_iff_toInt_lt, ii_toInt ha, ii_toInt hb]
theorem ii_le {a b : Int} (ha : R32 a) (hb : R32 b) : ii a ≤ ii b ↔ a ≤ b := by rw [Int32.le_iff_toInt_le, ii_toInt ha, ii_toInt hb]
theorem ii_eq {a b : Int} (ha : R32 a) (hb : R32 b) : ii a = ii b ↔ a = b := by rw [← Int32.toInt_inj, ii_toInt ha, ii_toInt hb]
theorem ll_lt {a b : Int} (ha : R64 a) (hb : R64 b) : ll a < ll b ↔ a < b := by rw [Int64.lt_iff_toInt_lt, ll_toInt ha, ll_toInt hb]
theorem ll_eq {a b : Int} (ha : R64 a) (hb : R64 b) : ll a = ll b ↔ a = b := by rw [← Int64.toInt_inj, ll_toInt ha, ll_toInt hb]
theorem ii_add (a b : Int) : ii a + ii b = ii (a + b) := (Int32.ofInt_add a b).symm
theorem ii_sub (a b : Int) : ii a - ii b = ii (a - b) := (Int32.ofInt_sub a b).symm
theorem ii_mul (a b : Int) : ii a * ii b = ii (a * b) := (Int32.ofInt_mul a b).symm
theorem ll_add (a b : Int) : ll a + ll b = ll (a + b) := (Int64.ofInt_add a b).symm
theorem ll_sub (a b : Int) : ll a - ll b = ll (a - b) := (Int64.ofInt_sub a b).symm
theorem ll_mul (a b : Int) : ll a * ll b = ll (a * b) := (Int64.ofInt_mul a b).symm
theorem ii_div {a b : Int} (ha : R32 a) (hb : R32 b) : ii a / ii b = ii (a.tdiv b) := (Int32.ofInt_tdiv (by simpa using ha.1) (by rw [show Int32.maxValue.toInt = 2147483647 by decide]; omega) (by simpa using hb.1) (by rw [show Int32.maxValue.toInt = 2147483647 by decide]; omega)).symm
theorem ll_div {a b : Int} (ha : R64 a) (hb : R64 b) : ll a / ll b = ll (a.tdiv b) := (Int64.ofInt_tdiv (by simpa using ha.1) (by rw [show Int64.maxValue.toInt = 9223372036854775807 by decide]; omega) (by simpa using hb.1) (by rw [show Int64.maxValue.toInt = 9223372036854775807 by decide]; omega)).symm
theorem ii_rem {a b : Int} (ha : R32 a) (hb : R32 b) : ii a - ii a / ii b * ii b = ii (a.tmod b) := by
  rw [ii_div ha hb, ii_mul, ii_sub]
  congr 1
  have := Int.tmod_add_mul_tdiv a b
  rw [Int.mul_comm] at this
  omega
theorem ll_rem {a b : Int} (ha : R64 a) (hb : R64 b) : ll a - ll a / ll b * ll b = ll (a.tmod b) := by
  rw [ll_div ha hb, ll_mul, ll_sub]
  congr 1
  have := Int.tmod_add_mul_tdiv a b
  rw [Int.mul_comm] at this
  omega
theorem ii_nat {a : Int} (ha : R32 a) : (ii a).toNatClampNeg = a.toNat := by
  show (ii a).toInt.toNat = a.toNat
  rw [ii_toInt ha]
theorem ii_in {a : Int} {n : Nat} (h0 : 0 ≤ a) (h1 : a < n) (ha : R32 a) : vp_in (ii a) n := by
  rw [vp_in_iff, ii_toInt ha]
  exact ⟨h0, h1⟩
def ia (x : Int → Int) : Nat → Int32 := fun j => ii (x (j : Int))
def la (x : Int → Int) : Nat → Int64 := fun j => ll (x (j : Int))
/-- x, but v at a -/
def up (x : Int → Int) (a v : Int) : Int → Int := fun j => if j = a then v else x j
theorem up_eq {x : Int → Int} {a v : Int} : up x a v a = v := if_pos rfl
theorem up_ne {x : Int → Int} {a v j : Int} (h : j ≠ a) : up x a v j = x j := if_neg h
theorem ia_at {x : Int → Int} {a : Int} (h : 0 ≤ a) : ia x a.toNat = ii (x a) := by unfold ia; rw [Int.toNat_of_nonneg h]
theorem la_at {x : Int → Int} {a : Int} (h : 0 ≤ a) : la x a.toNat = ll (x a) := by unfold la; rw [Int.toNat_of_nonneg h]
theorem ia_up {x : Int → Int} {a v : Int} (h : 0 ≤ a) : upd (ia x) a.toNat (ii v) = ia (up x a v) := by
  funext j
  unfold upd ia up
  by_cases hj : j = a.toNat
  · rw [if_pos hj, if_pos (by omega)]
  · rw [if_neg hj, if_neg (by omega)]
theorem la_up {x : Int → Int} {a v : Int} (h : 0 ≤ a) : vp_updL (la x) a.toNat (ll v) = la (up x a v) := by
  funext j
  unfold vp_updL la up
  by_cases hj : j = a.toNat
  · rw [if_pos hj, if_pos (by omega)]
  · rw [if_neg hj, if_neg (by omega)]
/-- n values of x from sp on, laid into z from dp on -/
def cpy (x z : Int → Int) (sp dp n : Int) : Int → Int := fun k => if dp ≤ k ∧ k < dp + n then x (sp + (k - dp)) else z k
theorem ia_cpy {x z : Int → Int} {sp dp n : Int} (h1 : 0 ≤ sp) (h2 : 0 ≤ dp) (h3 : 0 ≤ n) : va_cpy (ia x) (ia z) sp.toNat dp.toNat n.toNat = ia (cpy x z sp dp n) := by
  funext k
  unfold va_cpy ia cpy
  by_cases hk : dp ≤ (k : Int) ∧ (k : Int) < dp + n
  · rw [if_pos hk, if_pos (by omega)]
    congr 2
    omega
  · rw [if_neg hk, if_neg (by omega)]
theorem la_cpy {x z : Int → Int} {sp dp n : Int} (h1 : 0 ≤ sp) (h2 : 0 ≤ dp) (h3 : 0 ≤ n) : va_cpy (la x) (la z) sp.toNat dp.toNat n.toNat = la (cpy x z sp dp n) := by
  funext k
  unfold va_cpy la cpy
  by_cases hk : dp ≤ (k : Int) ∧ (k : Int) < dp + n
  · rw [if_pos hk, if_pos (by omega)]
    congr 2
    omega
  · rw [if_neg hk, if_neg (by omega)]
section SJZ
variable {g : Bool} {y : xY} {d pc : Nat} {L : List (Option Value)} {st : List Value} {mem : List xM} {bc bs : Nat} {Q : List xM → Option Value → Prop}
theorem z_iconst {n : Int} (hd : decode y.2.1 pc = .ok (.iconst n, 1)) (k : SJ g y d (pc + 1) L (.int (ii n) :: st) mem bc bs Q) : SJ g y d pc L st mem bc bs Q := j_iconst hd rfl k
theorem z_bipush {n : Int} (hd : decode y.2.1 pc = .ok (.bipush n, 2)) (hv : (Int8.ofInt n).toInt32 = ii n) (k : SJ g y d (pc + 2) L (.int (ii n) :: st) mem bc bs Q) : SJ g y d pc L st mem bc bs Q := j_bipush hd hv k
theorem z_sipush {n : Int} (hd : decode y.2.1 pc = .ok (.sipush n, 3)) (hv : (Int16.ofInt n).toInt32 = ii n) (k : SJ g y d (pc + 3) L (.int (ii n) :: st) mem bc bs Q) : SJ g y d pc L st mem bc bs Q := j_sipush hd hv k
theorem z_lconst {n : Fin 2} {v : Int} (hd : decode y.2.1 pc = .ok (.lconst n, 1)) (hv : Int64.ofNat (n : Nat) = ll v) (k : SJ g y d (pc + 1) L (.long (ll v) :: st) mem bc bs Q) : SJ g y d pc L st mem bc bs Q := j_lconst hd hv k
theorem z_ldc {i : Nat} {v : Int32} {w : Int} (hd : decode y.2.1 pc = .ok (.ldc i, 2)) (hw : Cond.constant y.1.cls i v ∈ gw) (hv : v = ii w) (k : SJ g y d (pc + 2) L (.int (ii w) :: st) mem bc bs Q) : SJ g y d pc L st mem bc bs Q := j_ldc hd hw (by rw [hv]; exact k)
theorem z_ldcw {i : Nat} {v : Int32} {w : Int} (hd : decode y.2.1 pc = .ok (.ldc_w i, 3)) (hw : Cond.constant y.1.cls i v ∈ gw) (hv : v = ii w) (k : SJ g y d (pc + 3) L (.int (ii w) :: st) mem bc bs Q) : SJ g y d pc L st mem bc bs Q := j_ldcw hd hw (by rw [hv]; exact k)
theorem z_ldc2 {i : Nat} {v : Int64} {w : Int} (hd : decode y.2.1 pc = .ok (.ldc2_w i, 3)) (hw : Cond.constantLong y.1.cls i v ∈ gw) (hv : v = ll w) (k : SJ g y d (pc + 3) L (.long (ll w) :: st) mem bc bs Q) : SJ g y d pc L st mem bc bs Q := j_ldc2 hd hw (by rw [hv]; exact k)
theorem z_iinc {i : Nat} {n a : Int} (hd : decode y.2.1 pc = .ok (.iinc i n, 3)) (hl : L[i]? = some (some (.int (ii a)))) (hn : i < y.2.2.1) (k : SJ g y d (pc + 3) (x_s1 L i (.int (ii (a + n)))) st mem bc bs Q) : SJ g y d pc L st mem bc bs Q := j_iinc hd hl (ii_add a n) hn k
theorem z_i2l {a : Int} (hd : decode y.2.1 pc = .ok (.i2l, 1)) (ha : R32 a) (k : SJ g y d (pc + 1) L (.long (ll a) :: st) mem bc bs Q) : SJ g y d pc L (.int (ii a) :: st) mem bc bs Q := j_i2l hd (by
  have e : (ii a).toInt64 = ll a := by
    apply Int64.toInt_inj.mp
    rw [Int32.toInt_toInt64, ii_toInt ha, ll_toInt ⟨by omega, by omega⟩]
  rw [e]
  exact k)
theorem z_l2i {a : Int} (hd : decode y.2.1 pc = .ok (.l2i, 1)) (ha : R32 a) (k : SJ g y d (pc + 1) L (.int (ii a) :: st) mem bc bs Q) : SJ g y d pc L (.long (ll a) :: st) mem bc bs Q := j_l2i hd (by
  have e : (ll a).toInt32 = ii a := by
    apply Int32.toInt_inj.mp
    rw [Int64.toInt_toInt32, ll_toInt ⟨by omega, by omega⟩, ii_toInt ha]
    exact Int.bmod_eq_of_le (by omega) (by omega)
  rw [e]
  exact k)
theorem z_iadd {a b : Int} (hd : decode y.2.1 pc = .ok (.iadd, 1)) (k : SJ g y d (pc + 1) L (.int (ii (a + b)) :: st) mem bc bs Q) : SJ g y d pc L (.int (ii b) :: .int (ii a) :: st) mem bc bs Q := j_iadd hd (by rw [ii_add]; exact k)
theorem z_isub {a b : Int} (hd : decode y.2.1 pc = .ok (.isub, 1)) (k : SJ g y d (pc + 1) L (.int (ii (a - b)) :: st) mem bc bs Q) : SJ g y d pc L (.int (ii b) :: .int (ii a) :: st) mem bc bs Q := j_isub hd (by rw [ii_sub]; exact k)
theorem z_imul {a b : Int} (hd : decode y.2.1 pc = .ok (.imul, 1)) (k : SJ g y d (pc + 1) L (.int (ii (a * b)) :: st) mem bc bs Q) : SJ g y d pc L (.int (ii b) :: .int (ii a) :: st) mem bc bs Q := j_imul hd (by rw [ii_mul]; exact k)
theorem z_ladd {a b : Int} (hd : decode y.2.1 pc = .ok (.ladd, 1)) (k : SJ g y d (pc + 1) L (.long (ll (a + b)) :: st) mem bc bs Q) : SJ g y d pc L (.long (ll b) :: .long (ll a) :: st) mem bc bs Q := j_ladd hd (by rw [ll_add]; exact k)
theorem z_lsub {a b : Int} (hd : decode y.2.1 pc = .ok (.lsub, 1)) (k : SJ g y d (pc + 1) L (.long (ll (a - b)) :: st) mem bc bs Q) : SJ g y d pc L (.long (ll b) :: .long (ll a) :: st) mem bc bs Q := j_lsub hd (by rw [ll_sub]; exact k)
theorem z_lmul {a b : Int} (hd : decode y.2.1 pc = .ok (.lmul, 1)) (k : SJ g y d (pc + 1) L (.long (ll (a * b)) :: st) mem bc bs Q) : SJ g y d pc L (.long (ll b) :: .long (ll a) :: st) mem bc bs Q := j_lmul hd (by rw [ll_mul]; exact k)
theorem z_ineg {a : Int} (hd : decode y.2.1 pc = .ok (.ineg, 1)) (k : SJ g y d (pc + 1) L (.int (ii (0 - a)) :: st) mem bc bs Q) : SJ g y d pc L (.int (ii a) :: st) mem bc bs Q := j_ineg hd (by rw [show (0 : Int32) = ii 0 from rfl, ii_sub]; exact k)
theorem z_idiv {a b : Int} (hd : decode y.2.1 pc = .ok (.idiv, 1)) (ha : R32 a) (hb : R32 b) (h0 : b ≠ 0) (k : SJ g y d (pc + 1) L (.int (ii (a.tdiv b)) :: st) mem bc bs Q) : SJ g y d pc L (.int (ii b) :: .int (ii a) :: st) mem bc bs Q := j_idiv hd (fun h => h0 ((ii_eq hb ⟨by decide, by decide⟩).mp (h.trans (show _ = ii 0 from rfl)))) (by rw [ii_div ha hb]; exact k)
theorem z_irem {a b : Int} (hd : decode y.2.1 pc = .ok (.irem, 1)) (ha : R32 a) (hb : R32 b) (h0 : b ≠ 0) (k : SJ g y d (pc + 1) L (.int (ii (a.tmod b)) :: st) mem bc bs Q) : SJ g y d pc L (.int (ii b) :: .int (ii a) :: st) mem bc bs Q := j_irem hd (fun h => h0 ((ii_eq hb ⟨by decide, by decide⟩).mp (h.trans (show _ = ii 0 from rfl)))) (by rw [ii_rem ha hb]; exact k)
theorem z_ldiv {a b : Int} (hd : decode y.2.1 pc = .ok (.ldiv, 1)) (ha : R64 a) (hb : R64 b) (h0 : b ≠ 0) (k : SJ g y d (pc + 1) L (.long (ll (a.tdiv b)) :: st) mem bc bs Q) : SJ g y d pc L (.long (ll b) :: .long (ll a) :: st) mem bc bs Q := j_ldiv hd (fun h => h0 ((ll_eq hb ⟨by decide, by decide⟩).mp (h.trans (show _ = ll 0 from rfl)))) (by rw [ll_div ha hb]; exact k)
theorem z_lrem {a b : Int} (hd : decode y.2.1 pc = .ok (.lrem, 1)) (ha : R64 a) (hb : R64 b) (h0 : b ≠ 0) (k : SJ g y d (pc + 1) L (.long (ll (a.tmod b)) :: st) mem bc bs Q) : SJ g y d pc L (.long (ll b) :: .long (ll a) :: st) mem bc bs Q := j_lrem hd (fun h => h0 ((ll_eq hb ⟨by decide, by decide⟩).mp (h.trans (show _ = ll 0 from rfl)))) (by rw [ll_rem ha hb]; exact k)
theorem z_if_eq {a o : Int} {t : Nat} (hd : decode y.2.1 pc = .ok (.ifCond .eq o, 3)) (ht : (pc : Int) + o = (t : Int)) (ha : R32 a) (kt : a = 0 → SJ g y d t L st mem bc bs Q) (kf : a ≠ 0 → SJ g y d (pc + 3) L st mem bc bs Q) : SJ g y d pc L (.int (ii a) :: st) mem bc bs Q :=
  have r0 : R32 0 := ⟨by decide, by decide⟩
  j_if_eq hd ht (fun h => kt ((ii_eq ha r0).mp h)) (fun h => kf (fun q => h ((ii_eq ha r0).mpr q)))
theorem z_if_ne {a o : Int} {t : Nat} (hd : decode y.2.1 pc = .ok (.ifCond .ne o, 3)) (ht : (pc : Int) + o = (t : Int)) (ha : R32 a) (kt : a ≠ 0 → SJ g y d t L st mem bc bs Q) (kf : a = 0 → SJ g y d (pc + 3) L st mem bc bs Q) : SJ g y d pc L (.int (ii a) :: st) mem bc bs Q :=
  have r0 : R32 0 := ⟨by decide, by decide⟩
  j_if_ne hd ht (fun h => kt (fun q => h ((ii_eq ha r0).mpr q))) (fun h => kf ((ii_eq ha r0).mp h))
theorem z_if_lt {a o : Int} {t : Nat} (hd : decode y.2.1 pc = .ok (.ifCond .lt o, 3)) (ht : (pc : Int) + o = (t : Int)) (ha : R32 a) (kt : a < 0 → SJ g y d t L st mem bc bs Q) (kf : 0 ≤ a → SJ g y d (pc + 3) L st mem bc bs Q) : SJ g y d pc L (.int (ii a) :: st) mem bc bs Q :=
  have r0 : R32 0 := ⟨by decide, by decide⟩
  j_if_lt hd ht (fun h => kt ((ii_lt ha r0).mp h)) (fun h => kf (Int.not_lt.mp (fun q => h ((ii_lt ha r0).mpr q))))
theorem z_if_ge {a o : Int} {t : Nat} (hd : decode y.2.1 pc = .ok (.ifCond .ge o, 3)) (ht : (pc : Int) + o = (t : Int)) (ha : R32 a) (kt : 0 ≤ a → SJ g y d t L st mem bc bs Q) (kf : a < 0 → SJ g y d (pc + 3) L st mem bc bs Q) : SJ g y d pc L (.int (ii a) :: st) mem bc bs Q :=
  have r0 : R32 0 := ⟨by decide, by decide⟩
  j_if_ge hd ht (fun h => kt ((ii_le r0 ha).mp h)) (fun h => kf (Int.not_le.mp (fun q => h ((ii_le r0 ha).mpr q))))
theorem z_if_gt {a o : Int} {t : Nat} (hd : decode y.2.1 pc = .ok (.ifCond .gt o, 3)) (ht : (pc : Int) + o = (t : Int)) (ha : R32 a) (kt : 0 < a → SJ g y d t L st mem bc bs Q) (kf : a ≤ 0 → SJ g y d (pc + 3) L st mem bc bs Q) : SJ g y d pc L (.int (ii a) :: st) mem bc bs Q :=
  have r0 : R32 0 := ⟨by decide, by decide⟩
  j_if_gt hd ht (fun h => kt ((ii_lt r0 ha).mp h)) (fun h => kf (Int.not_lt.mp (fun q => h ((ii_lt r0 ha).mpr q))))
theorem z_if_le {a o : Int} {t : Nat} (hd : decode y.2.1 pc = .ok (.ifCond .le o, 3)) (ht : (pc : Int) + o = (t : Int)) (ha : R32 a) (kt : a ≤ 0 → SJ g y d t L st mem bc bs Q) (kf : 0 < a → SJ g y d (pc + 3) L st mem bc bs Q) : SJ g y d pc L (.int (ii a) :: st) mem bc bs Q :=
  have r0 : R32 0 := ⟨by decide, by decide⟩
  j_if_le hd ht (fun h => kt ((ii_le ha r0).mp h)) (fun h => kf (Int.not_le.mp (fun q => h ((ii_le ha r0).mpr q))))
theorem z_icmp_eq {a b o : Int} {t : Nat} (hd : decode y.2.1 pc = .ok (.if_icmp .eq o, 3)) (ht : (pc : Int) + o = (t : Int)) (ha : R32 a) (hb : R32 b) (kt : a = b → SJ g y d t L st mem bc bs Q) (kf : a ≠ b → SJ g y d (pc + 3) L st mem bc bs Q) : SJ g y d pc L (.int (ii b) :: .int (ii a) :: st) mem bc bs Q :=
  j_icmp_eq hd ht (fun h => kt ((ii_eq ha hb).mp h)) (fun h => kf (fun q => h ((ii_eq ha hb).mpr q)))
theorem z_icmp_ne {a b o : Int} {t : Nat} (hd : decode y.2.1 pc = .ok (.if_icmp .ne o, 3)) (ht : (pc : Int) + o = (t : Int)) (ha : R32 a) (hb : R32 b) (kt : a ≠ b → SJ g y d t L st mem bc bs Q) (kf : a = b → SJ g y d (pc + 3) L st mem bc bs Q) : SJ g y d pc L (.int (ii b) :: .int (ii a) :: st) mem bc bs Q :=
  j_icmp_ne hd ht (fun h => kt (fun q => h ((ii_eq ha hb).mpr q))) (fun h => kf ((ii_eq ha hb).mp h))
theorem z_icmp_lt {a b o : Int} {t : Nat} (hd : decode y.2.1 pc = .ok (.if_icmp .lt o, 3)) (ht : (pc : Int) + o = (t : Int)) (ha : R32 a) (hb : R32 b) (kt : a < b → SJ g y d t L st mem bc bs Q) (kf : b ≤ a → SJ g y d (pc + 3) L st mem bc bs Q) : SJ g y d pc L (.int (ii b) :: .int (ii a) :: st) mem bc bs Q :=
  j_icmp_lt hd ht (fun h => kt ((ii_lt ha hb).mp h)) (fun h => kf (Int.not_lt.mp (fun q => h ((ii_lt ha hb).mpr q))))
theorem z_icmp_ge {a b o : Int} {t : Nat} (hd : decode y.2.1 pc = .ok (.if_icmp .ge o, 3)) (ht : (pc : Int) + o = (t : Int)) (ha : R32 a) (hb : R32 b) (kt : b ≤ a → SJ g y d t L st mem bc bs Q) (kf : a < b → SJ g y d (pc + 3) L st mem bc bs Q) : SJ g y d pc L (.int (ii b) :: .int (ii a) :: st) mem bc bs Q :=
  j_icmp_ge hd ht (fun h => kt ((ii_le hb ha).mp h)) (fun h => kf (Int.not_le.mp (fun q => h ((ii_le hb ha).mpr q))))
theorem z_icmp_gt {a b o : Int} {t : Nat} (hd : decode y.2.1 pc = .ok (.if_icmp .gt o, 3)) (ht : (pc : Int) + o = (t : Int)) (ha : R32 a) (hb : R32 b) (kt : b < a → SJ g y d t L st mem bc bs Q) (kf : a ≤ b → SJ g y d (pc + 3) L st mem bc bs Q) : SJ g y d pc L (.int (ii b) :: .int (ii a) :: st) mem bc bs Q :=
  j_icmp_gt hd ht (fun h => kt ((ii_lt hb ha).mp h)) (fun h => kf (Int.not_lt.mp (fun q => h ((ii_lt hb ha).mpr q))))
theorem z_icmp_le {a b o : Int} {t : Nat} (hd : decode y.2.1 pc = .ok (.if_icmp .le o, 3)) (ht : (pc : Int) + o = (t : Int)) (ha : R32 a) (hb : R32 b) (kt : a ≤ b → SJ g y d t L st mem bc bs Q) (kf : b < a → SJ g y d (pc + 3) L st mem bc bs Q) : SJ g y d pc L (.int (ii b) :: .int (ii a) :: st) mem bc bs Q :=
  j_icmp_le hd ht (fun h => kt ((ii_le ha hb).mp h)) (fun h => kf (Int.not_le.mp (fun q => h ((ii_le ha hb).mpr q))))
theorem z_cmp {a b : Int} (ha : R64 a) (hb : R64 b) : lg_cmp (ll a) (ll b) = ii (if b < a then 1 else if a = b then 0 else -1) := by
  unfold lg_cmp
  by_cases h1 : b < a
  · rw [if_pos ((ll_lt hb ha).mpr h1), if_pos h1]; rfl
  · rw [if_neg (fun q => h1 ((ll_lt hb ha).mp q)), if_neg h1]
    by_cases h2 : a = b
    · rw [if_pos ((ll_eq ha hb).mpr h2), if_pos h2]; rfl
    · rw [if_neg (fun q => h2 ((ll_eq ha hb).mp q)), if_neg h2]; rfl
theorem z_lcmp_eq {a b o : Int} {t : Nat} (hd : decode y.2.1 pc = .ok (.lcmp, 1)) (hd2 : decode y.2.1 (pc + 1) = .ok (.ifCond .eq o, 3)) (ht : ((pc + 1 : Nat) : Int) + o = (t : Int)) (ha : R64 a) (hb : R64 b) (kt : a = b → SJ g y d t L st mem bc bs Q) (kf : a ≠ b → SJ g y d (pc + 1 + 3) L st mem bc bs Q) : SJ g y d pc L (.long (ll b) :: .long (ll a) :: st) mem bc bs Q := by
  refine j_lcmp hd ?_
  rw [z_cmp ha hb]
  refine z_if_eq hd2 ht (by split <;> (try split) <;> exact ⟨by decide, by decide⟩) (fun h => kt ?_) (fun h => kf ?_)
  · by_cases h1 : b < a
    · rw [if_pos h1] at h; omega
    · rw [if_neg h1] at h
      by_cases h2 : a = b
      · rw [if_pos h2] at h; omega
      · rw [if_neg h2] at h; omega
  · by_cases h1 : b < a
    · rw [if_pos h1] at h; omega
    · rw [if_neg h1] at h
      by_cases h2 : a = b
      · rw [if_pos h2] at h; omega
      · rw [if_neg h2] at h; omega
theorem z_lcmp_ne {a b o : Int} {t : Nat} (hd : decode y.2.1 pc = .ok (.lcmp, 1)) (hd2 : decode y.2.1 (pc + 1) = .ok (.ifCond .ne o, 3)) (ht : ((pc + 1 : Nat) : Int) + o = (t : Int)) (ha : R64 a) (hb : R64 b) (kt : a ≠ b → SJ g y d t L st mem bc bs Q) (kf : a = b → SJ g y d (pc + 1 + 3) L st mem bc bs Q) : SJ g y d pc L (.long (ll b) :: .long (ll a) :: st) mem bc bs Q := by
  refine j_lcmp hd ?_
  rw [z_cmp ha hb]
  refine z_if_ne hd2 ht (by split <;> (try split) <;> exact ⟨by decide, by decide⟩) (fun h => kt ?_) (fun h => kf ?_)
  · by_cases h1 : b < a
    · rw [if_pos h1] at h; omega
    · rw [if_neg h1] at h
      by_cases h2 : a = b
      · rw [if_pos h2] at h; omega
      · rw [if_neg h2] at h; omega
  · by_cases h1 : b < a
    · rw [if_pos h1] at h; omega
    · rw [if_neg h1] at h
      by_cases h2 : a = b
      · rw [if_pos h2] at h; omega
      · rw [if_neg h2] at h; omega
theorem z_lcmp_lt {a b o : Int} {t : Nat} (hd : decode y.2.1 pc = .ok (.lcmp, 1)) (hd2 : decode y.2.1 (pc + 1) = .ok (.ifCond .lt o, 3)) (ht : ((pc + 1 : Nat) : Int) + o = (t : Int)) (ha : R64 a) (hb : R64 b) (kt : a < b → SJ g y d t L st mem bc bs Q) (kf : b ≤ a → SJ g y d (pc + 1 + 3) L st mem bc bs Q) : SJ g y d pc L (.long (ll b) :: .long (ll a) :: st) mem bc bs Q := by
  refine j_lcmp hd ?_
  rw [z_cmp ha hb]
  refine z_if_lt hd2 ht (by split <;> (try split) <;> exact ⟨by decide, by decide⟩) (fun h => kt ?_) (fun h => kf ?_)
  · by_cases h1 : b < a
    · rw [if_pos h1] at h; omega
    · rw [if_neg h1] at h
      by_cases h2 : a = b
      · rw [if_pos h2] at h; omega
      · rw [if_neg h2] at h; omega
  · by_cases h1 : b < a
    · rw [if_pos h1] at h; omega
    · rw [if_neg h1] at h
      by_cases h2 : a = b
      · rw [if_pos h2] at h; omega
      · rw [if_neg h2] at h; omega
theorem z_lcmp_ge {a b o : Int} {t : Nat} (hd : decode y.2.1 pc = .ok (.lcmp, 1)) (hd2 : decode y.2.1 (pc + 1) = .ok (.ifCond .ge o, 3)) (ht : ((pc + 1 : Nat) : Int) + o = (t : Int)) (ha : R64 a) (hb : R64 b) (kt : b ≤ a → SJ g y d t L st mem bc bs Q) (kf : a < b → SJ g y d (pc + 1 + 3) L st mem bc bs Q) : SJ g y d pc L (.long (ll b) :: .long (ll a) :: st) mem bc bs Q := by
  refine j_lcmp hd ?_
  rw [z_cmp ha hb]
  refine z_if_ge hd2 ht (by split <;> (try split) <;> exact ⟨by decide, by decide⟩) (fun h => kt ?_) (fun h => kf ?_)
  · by_cases h1 : b < a
    · rw [if_pos h1] at h; omega
    · rw [if_neg h1] at h
      by_cases h2 : a = b
      · rw [if_pos h2] at h; omega
      · rw [if_neg h2] at h; omega
  · by_cases h1 : b < a
    · rw [if_pos h1] at h; omega
    · rw [if_neg h1] at h
      by_cases h2 : a = b
      · rw [if_pos h2] at h; omega
      · rw [if_neg h2] at h; omega
theorem z_lcmp_gt {a b o : Int} {t : Nat} (hd : decode y.2.1 pc = .ok (.lcmp, 1)) (hd2 : decode y.2.1 (pc + 1) = .ok (.ifCond .gt o, 3)) (ht : ((pc + 1 : Nat) : Int) + o = (t : Int)) (ha : R64 a) (hb : R64 b) (kt : b < a → SJ g y d t L st mem bc bs Q) (kf : a ≤ b → SJ g y d (pc + 1 + 3) L st mem bc bs Q) : SJ g y d pc L (.long (ll b) :: .long (ll a) :: st) mem bc bs Q := by
  refine j_lcmp hd ?_
  rw [z_cmp ha hb]
  refine z_if_gt hd2 ht (by split <;> (try split) <;> exact ⟨by decide, by decide⟩) (fun h => kt ?_) (fun h => kf ?_)
  · by_cases h1 : b < a
    · rw [if_pos h1] at h; omega
    · rw [if_neg h1] at h
      by_cases h2 : a = b
      · rw [if_pos h2] at h; omega
      · rw [if_neg h2] at h; omega
  · by_cases h1 : b < a
    · rw [if_pos h1] at h; omega
    · rw [if_neg h1] at h
      by_cases h2 : a = b
      · rw [if_pos h2] at h; omega
      · rw [if_neg h2] at h; omega
theorem z_lcmp_le {a b o : Int} {t : Nat} (hd : decode y.2.1 pc = .ok (.lcmp, 1)) (hd2 : decode y.2.1 (pc + 1) = .ok (.ifCond .le o, 3)) (ht : ((pc + 1 : Nat) : Int) + o = (t : Int)) (ha : R64 a) (hb : R64 b) (kt : a ≤ b → SJ g y d t L st mem bc bs Q) (kf : b < a → SJ g y d (pc + 1 + 3) L st mem bc bs Q) : SJ g y d pc L (.long (ll b) :: .long (ll a) :: st) mem bc bs Q := by
  refine j_lcmp hd ?_
  rw [z_cmp ha hb]
  refine z_if_le hd2 ht (by split <;> (try split) <;> exact ⟨by decide, by decide⟩) (fun h => kt ?_) (fun h => kf ?_)
  · by_cases h1 : b < a
    · rw [if_pos h1] at h; omega
    · rw [if_neg h1] at h
      by_cases h2 : a = b
      · rw [if_pos h2] at h; omega
      · rw [if_neg h2] at h; omega
  · by_cases h1 : b < a
    · rw [if_pos h1] at h; omega
    · rw [if_neg h1] at h
      by_cases h2 : a = b
      · rw [if_pos h2] at h; omega
      · rw [if_neg h2] at h; omega
theorem z_iald {i n : Nat} {x : Int → Int} {a : Int} (hd : decode y.2.1 pc = .ok (.iaload, 1)) (hm : mem[i]? = some (.inl (0, n, .inl (ia x)))) (h0 : 0 ≤ a) (h1 : a < n) (ha : R32 a) (kk : SJ g y d (pc + 1) L (.int (ii (x a)) :: st) mem bc bs Q) : SJ g y d pc L (.int (ii a) :: .ref i :: st) mem bc bs Q :=
  j_iald hd hm (ii_in h0 h1 ha) (by rw [ii_nat ha, ia_at h0]; exact kk)
theorem z_bald {i n : Nat} {x : Int → Int} {a : Int} (hd : decode y.2.1 pc = .ok (.baload, 1)) (hm : mem[i]? = some (.inl (1, n, .inl (ia x)))) (h0 : 0 ≤ a) (h1 : a < n) (ha : R32 a) (kk : SJ g y d (pc + 1) L (.int (ii (x a)) :: st) mem bc bs Q) : SJ g y d pc L (.int (ii a) :: .ref i :: st) mem bc bs Q :=
  j_bald hd hm (ii_in h0 h1 ha) (by rw [ii_nat ha, ia_at h0]; exact kk)
theorem z_zald {i n : Nat} {x : Int → Int} {a : Int} (hd : decode y.2.1 pc = .ok (.baload, 1)) (hm : mem[i]? = some (.inl (2, n, .inl (ia x)))) (h0 : 0 ≤ a) (h1 : a < n) (ha : R32 a) (kk : SJ g y d (pc + 1) L (.int (ii (x a)) :: st) mem bc bs Q) : SJ g y d pc L (.int (ii a) :: .ref i :: st) mem bc bs Q :=
  j_zald hd hm (ii_in h0 h1 ha) (by rw [ii_nat ha, ia_at h0]; exact kk)
theorem z_cald {i n : Nat} {x : Int → Int} {a : Int} (hd : decode y.2.1 pc = .ok (.caload, 1)) (hm : mem[i]? = some (.inl (4, n, .inl (ia x)))) (h0 : 0 ≤ a) (h1 : a < n) (ha : R32 a) (kk : SJ g y d (pc + 1) L (.int (ii (x a)) :: st) mem bc bs Q) : SJ g y d pc L (.int (ii a) :: .ref i :: st) mem bc bs Q :=
  j_cald hd hm (ii_in h0 h1 ha) (by rw [ii_nat ha, ia_at h0]; exact kk)
theorem z_lald {i n : Nat} {x : Int → Int} {a : Int} (hd : decode y.2.1 pc = .ok (.laload, 1)) (hm : mem[i]? = some (.inl (3, n, .inr (.inl (la x))))) (h0 : 0 ≤ a) (h1 : a < n) (ha : R32 a) (kk : SJ g y d (pc + 1) L (.long (ll (x a)) :: st) mem bc bs Q) : SJ g y d pc L (.int (ii a) :: .ref i :: st) mem bc bs Q :=
  j_lald hd hm (ii_in h0 h1 ha) (by rw [ii_nat ha, la_at h0]; exact kk)
theorem z_iast {i n : Nat} {x : Int → Int} {a v : Int} (hd : decode y.2.1 pc = .ok (.iastore, 1)) (hm : mem[i]? = some (.inl (0, n, .inl (ia x)))) (h0 : 0 ≤ a) (h1 : a < n) (ha : R32 a) (kk : SJ g y d (pc + 1) L st (mem.set i (.inl (0, n, .inl (ia (up x a v))))) bc bs Q) : SJ g y d pc L (.int (ii v) :: .int (ii a) :: .ref i :: st) mem bc bs Q :=
  j_iast hd hm (ii_in h0 h1 ha) (by rw [ii_nat ha, ia_up h0]; exact kk)
theorem z_bast {i n : Nat} {x : Int → Int} {a v : Int} (hd : decode y.2.1 pc = .ok (.bastore, 1)) (hm : mem[i]? = some (.inl (1, n, .inl (ia x)))) (h0 : 0 ≤ a) (h1 : a < n) (ha : R32 a) (hv : vp_nar .byte (ii v) = ii v) (kk : SJ g y d (pc + 1) L st (mem.set i (.inl (1, n, .inl (ia (up x a v))))) bc bs Q) : SJ g y d pc L (.int (ii v) :: .int (ii a) :: .ref i :: st) mem bc bs Q :=
  j_bast hd hm (ii_in h0 h1 ha) (by rw [ii_nat ha, hv, ia_up h0]; exact kk)
theorem z_zast {i n : Nat} {x : Int → Int} {a v : Int} (hd : decode y.2.1 pc = .ok (.bastore, 1)) (hm : mem[i]? = some (.inl (2, n, .inl (ia x)))) (h0 : 0 ≤ a) (h1 : a < n) (ha : R32 a) (hv : v = 0 ∨ v = 1) (kk : SJ g y d (pc + 1) L st (mem.set i (.inl (2, n, .inl (ia (up x a v))))) bc bs Q) : SJ g y d pc L (.int (ii v) :: .int (ii a) :: .ref i :: st) mem bc bs Q :=
  j_zast hd hm (ii_in h0 h1 ha) (by rw [ii_nat ha, show vp_nar .boolean (ii v) = ii v by rcases hv with rfl | rfl <;> decide, ia_up h0]; exact kk)
theorem z_last {i n : Nat} {x : Int → Int} {a v : Int} (hd : decode y.2.1 pc = .ok (.lastore, 1)) (hm : mem[i]? = some (.inl (3, n, .inr (.inl (la x))))) (h0 : 0 ≤ a) (h1 : a < n) (ha : R32 a) (kk : SJ g y d (pc + 1) L st (mem.set i (.inl (3, n, .inr (.inl (la (up x a v)))))) bc bs Q) : SJ g y d pc L (.long (ll v) :: .int (ii a) :: .ref i :: st) mem bc bs Q :=
  j_last hd hm (ii_in h0 h1 ha) (by rw [ii_nat ha, la_up h0]; exact kk)
theorem z_zreturn {a : Int} (hr : y.2.2.2 = some .boolean) (ha : a = 0 ∨ a = 1) (hd : decode y.2.1 pc = .ok (.ireturn, 1)) (hq : Q mem (some (.int (ii a)))) : SJ g y d pc L [.int (ii a)] mem bc bs Q := j_zreturn hr (by rcases ha with rfl | rfl <;> decide) hd hq
theorem z_max {idx : Nat} {a b : Int} (hd : decode y.2.1 pc = .ok (.invokestatic idx, 3)) (hw : Cond.methodLink y.1.cls idx Lib.Math.max.name ∈ gw) (hcat : (st.map fun v => v.category).sum ≤ 8) (ha : R32 a) (hb : R32 b) (kk : SJ g y (d + 1) (pc + 3) L (.int (ii (max a b)) :: st) mem bc bs Q) : SJ g y (d + 1) pc L (.int (ii b) :: .int (ii a) :: st) mem bc bs Q := by
  refine j_max hd hw hcat ?_
  have e : (if ii a < ii b then ii b else ii a) = ii (max a b) := by
    by_cases h : a < b
    · rw [if_pos ((ii_lt ha hb).mpr h), Int.max_eq_right (by omega)]
    · rw [if_neg (fun q => h ((ii_lt ha hb).mp q)), Int.max_eq_left (by omega)]
  rw [e]
  exact kk
theorem z_min {idx : Nat} {a b : Int} (hd : decode y.2.1 pc = .ok (.invokestatic idx, 3)) (hw : Cond.methodLink y.1.cls idx Lib.Math.min.name ∈ gw) (hcat : (st.map fun v => v.category).sum ≤ 8) (ha : R32 a) (hb : R32 b) (kk : SJ g y (d + 1) (pc + 3) L (.int (ii (min a b)) :: st) mem bc bs Q) : SJ g y (d + 1) pc L (.int (ii b) :: .int (ii a) :: st) mem bc bs Q := by
  refine j_min hd hw hcat ?_
  have e : (if ii b < ii a then ii b else ii a) = ii (min a b) := by
    by_cases h : b < a
    · rw [if_pos ((ii_lt hb ha).mpr h), Int.min_eq_right (by omega)]
    · rw [if_neg (fun q => h ((ii_lt hb ha).mp q)), Int.min_eq_left (by omega)]
  rw [e]
  exact kk
theorem ii_nneg {a : Int} (ha : R32 a) (h : 0 ≤ a) : ¬ ii a < 0 := by
  rw [show (0 : Int32) = ii 0 from rfl, ii_lt ha ⟨by decide, by decide⟩]
  omega
theorem z_copyI {i0 i1 n0 n1 idx : Nat} {x z : Int → Int} {sp dp n : Int} (hd : decode y.2.1 pc = .ok (.invokestatic idx, 3)) (hw : Cond.methodLink y.1.cls idx arraycopyName ∈ gw) (hm0 : mem[i0]? = some (.inl (0, n0, .inl (ia x)))) (hm1 : mem[i1]? = some (.inl (0, n1, .inl (ia z)))) (h1 : 0 ≤ sp) (h2 : 0 ≤ dp) (h3 : 0 ≤ n) (h4 : sp + n ≤ n0) (h5 : dp + n ≤ n1) (r1 : R32 sp) (r2 : R32 dp) (r3 : R32 n) (hcat : (st.map fun v => v.category).sum ≤ 8)
    (kk : SJ g y (d + 1) (pc + 3) L st (mem.set i1 (.inl (0, n1, .inl (ia (cpy x z sp dp n))))) bc bs Q) : SJ g y (d + 1) pc L (.int (ii n) :: .int (ii dp) :: .ref i1 :: .int (ii sp) :: .ref i0 :: st) mem bc bs Q := by
  refine j_copyI hd hw hm0 hm1 (ii_nneg r1 h1) (ii_nneg r2 h2) (ii_nneg r3 h3) (by rw [ii_nat r1, ii_nat r3]; omega) (by rw [ii_nat r2, ii_nat r3]; omega) hcat ?_
  rw [ii_nat r1, ii_nat r2, ii_nat r3, ia_cpy h1 h2 h3]
  exact kk
theorem z_copyL {i0 i1 n0 n1 idx : Nat} {x z : Int → Int} {sp dp n : Int} (hd : decode y.2.1 pc = .ok (.invokestatic idx, 3)) (hw : Cond.methodLink y.1.cls idx arraycopyName ∈ gw) (hm0 : mem[i0]? = some (.inl (3, n0, .inr (.inl (la x))))) (hm1 : mem[i1]? = some (.inl (3, n1, .inr (.inl (la z))))) (h1 : 0 ≤ sp) (h2 : 0 ≤ dp) (h3 : 0 ≤ n) (h4 : sp + n ≤ n0) (h5 : dp + n ≤ n1) (r1 : R32 sp) (r2 : R32 dp) (r3 : R32 n) (hcat : (st.map fun v => v.category).sum ≤ 8)
    (kk : SJ g y (d + 1) (pc + 3) L st (mem.set i1 (.inl (3, n1, .inr (.inl (la (cpy x z sp dp n)))))) bc bs Q) : SJ g y (d + 1) pc L (.int (ii n) :: .int (ii dp) :: .ref i1 :: .int (ii sp) :: .ref i0 :: st) mem bc bs Q := by
  refine j_copyL hd hw hm0 hm1 (ii_nneg r1 h1) (ii_nneg r2 h2) (ii_nneg r3 h3) (by rw [ii_nat r1, ii_nat r3]; omega) (by rw [ii_nat r2, ii_nat r3]; omega) hcat ?_
  rw [ii_nat r1, ii_nat r2, ii_nat r3, la_cpy h1 h2 h3]
  exact kk
end SJZ
