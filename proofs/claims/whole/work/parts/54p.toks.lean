/-! PURE: tokens of the class against those of the reference -/
def tkF (C : Int → Int) (N j : Int) : Int := if j < N then tkm (C j) else 302
def vC (c : Int) : Prop := (0 ≤ c ∧ c ≤ 27) ∨ c = 50 ∨ (100 ≤ c ∧ c ≤ 355)
theorem tkm_w : ∀ z : Fin 28, 256 ≤ ofL TMP ((z : Nat) : Int) ∧ ofL TMP ((z : Nat) : Int) ≤ 300 := by decide +kernel
theorem tkm_ww : ∀ z w : Fin 28, ofL TMP ((z : Nat) : Int) = ofL TMP ((w : Nat) : Int) → z = w := by decide +kernel
theorem tkm_inj {c w : Int} (hc : vC c) (hw : vC w) (h : tkm c = tkm w) : c = w := by
  have key : ∀ x, 0 ≤ x → x ≤ 27 → tkm x = ofL TMP x ∧ 256 ≤ ofL TMP x ∧ ofL TMP x ≤ 300 := fun x x0 x1 => by
    have := tkm_w ⟨x.toNat, by omega⟩
    rw [show (((⟨x.toNat, by omega⟩ : Fin 28) : Nat) : Int) = x from Int.toNat_of_nonneg x0] at this
    exact ⟨if_pos x1, this.1, this.2⟩
  have k50 : tkm 50 = 301 := by decide
  have k100 : ∀ x, 100 ≤ x → tkm x = x - 100 := fun x x0 => by unfold tkm; rw [if_neg (by omega), if_neg (by omega)]
  rcases hc with hc | rfl | hc
  · have e1 := key c hc.1 hc.2
    rcases hw with hw | rfl | hw
    · have e2 := key w hw.1 hw.2
      have := tkm_ww ⟨c.toNat, by omega⟩ ⟨w.toNat, by omega⟩ (by
        rw [show (((⟨c.toNat, by omega⟩ : Fin 28) : Nat) : Int) = c from Int.toNat_of_nonneg hc.1, show (((⟨w.toNat, by omega⟩ : Fin 28) : Nat) : Int) = w from Int.toNat_of_nonneg hw.1, ← e1.1, ← e2.1]
        exact h)
      have e3 := congrArg Fin.val this
      have e4 : c.toNat = w.toNat := e3
      omega
    · omega
    · have := k100 w hw.1; omega
  · rcases hw with hw | rfl | hw
    · have e2 := key w hw.1 hw.2; omega
    · rfl
    · have := k100 w hw.1; omega
  · have e1 := k100 c hc.1
    rcases hw with hw | rfl | hw
    · have e2 := key w hw.1 hw.2; omega
    · omega
    · have := k100 w hw.1; omega
theorem tkm_R {c : Int} (hc : vC c) : 0 ≤ tkm c ∧ tkm c ≤ 301 := by
  rcases hc with hc | rfl | hc
  · have := tkm_w ⟨c.toNat, by omega⟩
    rw [show (((⟨c.toNat, by omega⟩ : Fin 28) : Nat) : Int) = c from Int.toNat_of_nonneg hc.1] at this
    unfold tkm
    rw [if_pos hc.2]
    omega
  · decide
  · unfold tkm
    rw [if_neg (by omega), if_neg (by omega)]
    omega
/-- what holds of the tokens -/
def TkH (C V : Int → Int) (N : Int) (tk pv : Int → Int) : Prop := (0 ≤ N ∧ N ≤ 400) ∧ C N = 0 ∧ (∀ j, 0 ≤ j → j < N → vC (C j) ∧ 0 ≤ V j) ∧ ∀ j, 0 ≤ j → j ≤ N → tk j = tkF C N j ∧ (C j = 50 → pv j = min 1001 (V j))
section TKH
variable {C V tk pv : Int → Int} {N j : Int}
theorem TkH.R (h : TkH C V N tk pv) (j0 : 0 ≤ j) : 0 ≤ tkF C N j ∧ tkF C N j ≤ 302 := by
  unfold tkF
  split
  · have := tkm_R (h.2.2.1 j j0 (by omega)).1
    omega
  · omega
theorem TkH.is (h : TkH C V N tk pv) (j0 : 0 ≤ j) (j1 : j ≤ N) {w : Int} (hw : vC w) (w0 : w ≠ 0) : tkF C N j = tkm w ↔ C j = w := by
  unfold tkF
  by_cases c : j < N
  · rw [if_pos c]
    exact ⟨fun e => tkm_inj (h.2.2.1 j j0 c).1 hw e, fun e => by rw [e]⟩
  · rw [if_neg c, show j = N by omega, h.2.1]
    have := tkm_R hw
    exact ⟨fun e => by omega, fun e => absurd e.symm w0⟩
theorem TkH.end_ (h : TkH C V N tk pv) (j0 : 0 ≤ j) (j1 : j ≤ N) : tkF C N j = 302 ↔ j = N := by
  unfold tkF
  by_cases c : j < N
  · rw [if_pos c]
    have := tkm_R (h.2.2.1 j j0 c).1
    exact ⟨fun e => by omega, fun e => by omega⟩
  · rw [if_neg c]
    exact ⟨fun _ => by omega, fun _ => rfl⟩
theorem TkH.lt (h : TkH C V N tk pv) (j1 : j ≤ N) (hc : C j ≠ 0) : j < N := by
  rcases Int.lt_or_eq_of_le j1 with z | z
  · exact z
  · rw [z, h.2.1] at hc; exact absurd rfl hc
theorem tkF_o (hc : 100 ≤ C j) (j1 : j < N) : tkF C N j = C j - 100 := by
  unfold tkF tkm
  rw [if_pos j1, if_neg (by omega), if_neg (by omega)]
theorem TkH.b (h : TkH C V N tk pv) (j0 : 0 ≤ j) (j1 : j ≤ N) {b : Int} (b0 : 0 ≤ b) (b1 : b ≤ 255) : tkF C N j = b ↔ C j = 100 + b := by
  have := h.is j0 j1 (w := 100 + b) (Or.inr (Or.inr (by omega))) (by omega)
  rwa [tkm_o b0] at this
theorem TkH.m (h : TkH C V N tk pv) (j0 : 0 ≤ j) (j1 : j ≤ N) : (tkF C N j = 42 ∨ tkF C N j = 47 ∨ tkF C N j = 37) ↔ isM (C j) := by
  rw [h.b j0 j1 (b := 42) (by decide) (by decide), h.b j0 j1 (b := 47) (by decide) (by decide), h.b j0 j1 (b := 37) (by decide) (by decide)]
  exact Iff.rfl
theorem TkH.a (h : TkH C V N tk pv) (j0 : 0 ≤ j) (j1 : j ≤ N) : (tkF C N j = 43 ∨ tkF C N j = 45) ↔ isA (C j) := by
  rw [h.b j0 j1 (b := 43) (by decide) (by decide), h.b j0 j1 (b := 45) (by decide) (by decide)]
  exact Iff.rfl
theorem TkH.w (h : TkH C V N tk pv) (j0 : 0 ≤ j) (j1 : j ≤ N) {w v : Int} (w1 : 1 ≤ w) (w2 : w ≤ 27) (e : tkm w = v) : tkF C N j = v ↔ C j = w := by
  subst e
  exact h.is j0 j1 (Or.inl (by omega)) (by omega)
theorem TkH.n (h : TkH C V N tk pv) (j0 : 0 ≤ j) (j1 : j ≤ N) : tkF C N j = 301 ↔ C j = 50 := h.is j0 j1 (Or.inr (Or.inl rfl)) (by decide)
theorem tkm_lw : ∀ z : Fin 28, (271 ≤ ofL TMP ((z : Nat) : Int) ∧ ofL TMP ((z : Nat) : Int) ≤ 278 ↔ 9 ≤ (z : Nat) ∧ (z : Nat) ≤ 16) ∧ (276 ≤ ofL TMP ((z : Nat) : Int) ∧ ofL TMP ((z : Nat) : Int) ≤ 282 ↔ 14 ≤ (z : Nat) ∧ (z : Nat) ≤ 20) ∧ (9 ≤ (z : Nat) ∧ (z : Nat) ≤ 20 → ofL TMP ((z : Nat) : Int) = ((z : Nat) : Int) + 262) := by decide +kernel
theorem TkH.wd (h : TkH C V N tk pv) (j0 : 0 ≤ j) (j1 : j ≤ N) : ((271 ≤ tkF C N j ∧ tkF C N j ≤ 278) ↔ (9 ≤ C j ∧ C j ≤ 16)) ∧ ((276 ≤ tkF C N j ∧ tkF C N j ≤ 282) ↔ (14 ≤ C j ∧ C j ≤ 20)) ∧ (9 ≤ C j ∧ C j ≤ 20 → tkF C N j = C j + 262) := by
  unfold tkF
  by_cases c : j < N
  · rw [if_pos c]
    rcases (h.2.2.1 j j0 c).1 with hc | hc | hc
    · have := tkm_lw ⟨(C j).toNat, by omega⟩
      rw [show (((⟨(C j).toNat, by omega⟩ : Fin 28) : Nat) : Int) = C j from Int.toNat_of_nonneg hc.1, show ((⟨(C j).toNat, by omega⟩ : Fin 28) : Nat) = (C j).toNat from rfl] at this
      have e : tkm (C j) = ofL TMP (C j) := if_pos hc.2
      rw [e]
      obtain ⟨t1, t2, t3⟩ := this
      exact ⟨t1.trans ⟨fun q => by omega, fun q => by omega⟩, t2.trans ⟨fun q => by omega, fun q => by omega⟩, fun q => t3 (by omega)⟩
    · have e : tkm (C j) = 301 := by rw [hc]; decide
      rw [e]
      exact ⟨⟨fun q => by omega, fun q => by omega⟩, ⟨fun q => by omega, fun q => by omega⟩, fun q => by omega⟩
    · have e : tkm (C j) = C j - 100 := by unfold tkm; rw [if_neg (by omega), if_neg (by omega)]
      rw [e]
      exact ⟨⟨fun q => by omega, fun q => by omega⟩, ⟨fun q => by omega, fun q => by omega⟩, fun q => by omega⟩
  · rw [if_neg c, show j = N by omega, h.2.1]
    exact ⟨⟨fun q => by omega, fun q => by omega⟩, ⟨fun q => by omega, fun q => by omega⟩, fun q => by omega⟩
end TKH
theorem At.keep {st vl st' vl' : Int → Int} {p : Int} {l : List (Int × Int)} (h : At st vl p l) (e : ∀ j, j < p + (l.length : Int) → st' j = st j ∧ vl' j = vl j) : At st' vl' p l := by
  intro i q hq
  have hi := (List.getElem?_eq_some_iff.mp hq).1
  have := e (p + i) (by omega)
  rw [this.1, this.2]
  exact h i q hq
theorem At.app {st vl : Int → Int} {p : Int} {l1 l2 : List (Int × Int)} (h1 : At st vl p l1) (h2 : At st vl (p + (l1.length : Int)) l2) : At st vl p (l1 ++ l2) := by
  intro i q hq
  by_cases c : i < l1.length
  · rw [List.getElem?_append_left c] at hq
    exact h1 i q hq
  · rw [List.getElem?_append_right (by omega)] at hq
    have := h2 (i - l1.length) q hq
    rwa [show p + (l1.length : Int) + ((i - l1.length : Nat) : Int) = p + (i : Int) by omega] at this
theorem At.one {st vl : Int → Int} {p a b : Int} (h1 : st p = a) (h2 : vl p = b) : At st vl p [(a, b)] := by
  intro i q hq
  cases i with
  | zero =>
    have e : (a, b) = q := by simpa using hq
    subst e
    rw [show p + ((0 : Nat) : Int) = p by omega]
    exact ⟨h1, h2⟩
  | succ i => simp at hq
theorem At.nil {st vl : Int → Int} {p : Int} : At st vl p [] := by
  intro i q hq
  simp at hq
theorem At.push {st vl : Int → Int} {p a b : Int} {l : List (Int × Int)} (h : At st vl p l) {z : Int} (hz : z = p + (l.length : Int)) : At (up st z a) (up vl z b) p (l ++ [(a, b)]) := by
  subst hz
  refine (h.keep (fun j hj => ⟨up_ne (by omega), up_ne (by omega)⟩)).app (At.one up_eq up_eq)
theorem len1 {l : List (Int × Int)} {q : Int × Int} : ((l ++ [q]).length : Int) = (l.length : Int) + 1 := by
  rw [List.length_append]
  rfl
theorem len2 {l m : List (Int × Int)} : ((l ++ m).length : Int) = (l.length : Int) + (m.length : Int) := by
  rw [List.length_append]
  omega
theorem bnX_len {op : Int} {e a : SXC} : ((bnX op e a).2.length : Int) = (e.2.length : Int) + (a.2.length : Int) + 1 := by
  show ((e.2 ++ a.2 ++ [(op - 100, 0)]).length : Int) = _
  rw [len1, len2]
theorem jnX_len {u p : Int} {e a : TXC} : ((jnX u p e a).length : Int) = ((e.2 p).length : Int) + 1 + ((a.2 (p + (e.2 p).length + 1)).length : Int) := by
  unfold jnX
  rw [List.length_append, List.length_cons]
  omega
