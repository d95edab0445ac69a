/-! PURE: the stack on which steps are worked out; none: out of bounds -/
abbrev MO : Type := Option (Int × Int)
def tkn (s : Int) : Int := if s = 110 ∨ s = 119 then 0 else if s = 33 ∨ s = 38 ∨ s = 46 ∨ s = 124 then 1 else 2
theorem tkn_R (s : Int) : 0 ≤ tkn s ∧ tkn s ≤ 2 := by
  unfold tkn
  split
  · omega
  · split <;> omega
def cmbJ (s a b : Int) : Int := if s = 43 then a + b else if s = 45 then a - b else if s = 42 then a * b else if s = 47 then (if b = 0 then 1000000001 else a.tdiv b) else if s = 37 then (if b = 0 then 1000000001 else a.tmod b) else if s = 60 then (if a < b then 1 else 0) else if s = 62 then (if b < a then 1 else 0) else (if a = b then 1 else 0)
def mach (st vl wd : Int → Int) : Nat → Int → Int → (Int → Int) → Int → MO
  | 0, _, _, _, _ => some (0, 1)
  | n + 1, i, top, sk, sp =>
    if i < sp then mach st vl wd n (i + 1) top sk sp
    else if top < tkn (st i) ∨ 51 ≤ top then some (0, 1)
    else if st i = 46 then (if rgo (sk (top - 1)) then some (sk (top - 1), 0) else none)
    else if st i = 110 then (if rgo (vl i) then mach st vl wd n (i + 1) (top + 1) (up sk top (vl i)) sp else none)
    else if st i = 119 then (if (0 ≤ vl i ∧ vl i < 52) ∧ rgo (wd (vl i)) then mach st vl wd n (i + 1) (top + 1) (up sk top (wd (vl i))) sp else none)
    else if st i = 33 then (if b01 (sk (top - 1)) then mach st vl wd n (i + 1) top (up sk (top - 1) (1 - sk (top - 1))) sp else none)
    else if st i = 124 ∨ st i = 38 then (if b01 (sk (top - 1)) ∧ R32 (vl i) then (if sk (top - 1) = (if st i = 124 then 1 else 0) then mach st vl wd n (i + 1) top sk (vl i) else mach st vl wd n (i + 1) (top - 1) sk sp) else none)
    else if rgo (sk (top - 2)) ∧ rgo (sk (top - 1)) then (if 1000000000 < cmbJ (st i) (sk (top - 2)) (sk (top - 1)) ∨ cmbJ (st i) (sk (top - 2)) (sk (top - 1)) < -1000000000 then some (0, 1) else mach st vl wd n (i + 1) (top - 1) (up sk (top - 2) (cmbJ (st i) (sk (top - 2)) (sk (top - 1)))) sp)
    else none
theorem ite_sn {α : Type} {c : Prop} [Decidable c] {x : Option α} {v : α} (h : (if c then x else none) = some v) : c ∧ x = some v := by
  by_cases hc : c
  · rw [if_pos hc] at h
    exact ⟨hc, h⟩
  · rw [if_neg hc] at h
    cases h
theorem cmbJ_R {s a b : Int} (ha : rgo a) (hb_ : rgo b) : R64 (cmbJ s a b) := by
  unfold cmbJ
  have h1 := rg_mul ha hb_
  have h2 := rg_div (b := b) ha
  have h3 := rg_mod (b := b) ha
  split
  · omega
  · split
    · omega
    · split
      · exact h1
      · split
        · split <;> omega
        · split
          · split <;> omega
          · split
            · split <;> omega
            · split
              · split <;> omega
              · split <;> omega
