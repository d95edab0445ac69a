/-! references stored -/
section SJREF
variable {g : Bool} {y : xY} {d pc : Nat} {L : List (Option Value)} {st : List Value} {mem : List xM} {bc bs : Nat} {Q : List xM → Option Value → Prop}
theorem j_aast {i k n t ci : Nat} {f : Nat → Option Nat} {fs : List Value} {j : Int32} (hC : (t = 5 ∧ ci = 10) ∨ (t = 6 ∧ ci = 7)) (hd : decode y.2.1 pc = .ok (.aastore, 1)) (hm : mem[i]? = some (.inl (t, n, .inr (.inr (.inr (.inr f)))))) (hv : mem[k]? = some (.inr (ci, fs))) (hj : vp_in j n) (kk : SJ g y d (pc + 1) L st (mem.set i (.inl (t, n, .inr (.inr (.inr (.inr (va_up f j.toNatClampNeg (some k)))))))) bc bs Q) : SJ g y d pc L (.ref k :: .int j :: .ref i :: st) mem bc bs Q := by
  intro l ad ex dA D A p e s m args below meth c H locs cells slots ls mc ms hI
  have hP : va_P D xcl (x_w ad ex dA mem) H := hI.2.2.1.1
  have hK : va_K D xcl (x_ty dA) s := hI.2.1.1
  obtain ⟨r, hc, ht⟩ : ∃ r : vw_C, xcl[ci]? = some r ∧ (x_ty dA)[t]? = some (dA t, .object r.1) := by
    rcases hC with ⟨rfl, rfl⟩ | ⟨rfl, rfl⟩
    · exact ⟨_, rfl, rfl⟩
    · exact ⟨_, rfl, rfl⟩
  have hlt : j.toNatClampNeg < n := Nat.not_le.mp fun q => hj (Or.inr q)
  have h0 : ¬ j < 0 := fun q => hj (Or.inl q)
  obtain ⟨r', hr', cellV, g1, g2, g3, -⟩ := hP k _ (x_w_at hv)
  have hcls := (hK.1 ci r hc).2
  obtain ⟨kA, comp, k1, k2, k3, -⟩ := (hK.2 t _ ht).2
  have hcomp : comp = D.1 ci := Option.some.inj (k3.symm.trans hcls.1)
  subst hcomp
  obtain ⟨kC, hkC, -⟩ := hcls.2
  refine W.aast hI.1.1 hI.1.2.1 (hP i _ (x_w_at hm)) (fun q h => by cases h) (fun h => by cases h) k1 k2 rfl hkC ⟨h0, by show _ < (arrV _ _ _).slots.size; rw [arrV_size]; exact hlt⟩ g1 (fun q h => by rw [g3] at h; cases h) (by rw [g2]; exact hkC) (by rw [g2]; exact va_assign hcls) rfl rfl hd fun H1 e z oq => ?_
  refine kk (hI.put hm _ ?_ z oq)
  show H1[ad i]? = some (vp_cell _ _)
  rw [e]
  show some ((vp_cell _ (n, .inr (.inr (.inr (.inr (fun i => (f i).map ad)))))).setSlot _ _) = some (vp_cell _ (n, .inr (.inr (.inr (.inr (fun i => (va_up f j.toNatClampNeg (some k) i).map ad))))))
  rw [vp_cell_q, vp_cell_q, arrV_store]
  congr 2
  funext q
  by_cases hq : q = j.toNatClampNeg
  · subst hq
    simp [updV, va_up, va_rf, x_v]
  · simp [updV, va_up, hq]
theorem j_aastN {i n t : Nat} {f : Nat → Option Nat} {j : Int32} (hC : t = 5 ∨ t = 6) (hd : decode y.2.1 pc = .ok (.aastore, 1)) (hm : mem[i]? = some (.inl (t, n, .inr (.inr (.inr (.inr f)))))) (hj : vp_in j n) (kk : SJ g y d (pc + 1) L st (mem.set i (.inl (t, n, .inr (.inr (.inr (.inr (va_up f j.toNatClampNeg none))))))) bc bs Q) : SJ g y d pc L (.null :: .int j :: .ref i :: st) mem bc bs Q := by
  intro l ad ex dA D A p e s m args below meth c H locs cells slots ls mc ms hI
  have hP : va_P D xcl (x_w ad ex dA mem) H := hI.2.2.1.1
  have hK : va_K D xcl (x_ty dA) s := hI.2.1.1
  obtain ⟨C, ht⟩ : ∃ C : String, (x_ty dA)[t]? = some (dA t, .object C) := by
    rcases hC with rfl | rfl
    · exact ⟨_, rfl⟩
    · exact ⟨_, rfl⟩
  refine va_WaastN (C := C) hI.1.1 hI.1.2.1 (hP i _ (x_w_at hm)) ((hK.2 t _ ht).1 n (fun j => va_rf ((f j).map ad))) (fun h => by cases h) (by show ¬ (j < 0 ∨ (arrV _ _ _).slots.size ≤ _); rw [arrV_size]; exact hj) rfl rfl hd fun H1 e z oq => ?_
  refine kk (hI.put hm _ ?_ z oq)
  show H1[ad i]? = some (vp_cell _ _)
  rw [e]
  show some ((vp_cell _ (n, .inr (.inr (.inr (.inr (fun i => (f i).map ad)))))).setSlot _ _) = some (vp_cell _ (n, .inr (.inr (.inr (.inr (fun i => (va_up f j.toNatClampNeg none i).map ad))))))
  rw [vp_cell_q, vp_cell_q, arrV_store]
  congr 2
  funext q
  by_cases hq : q = j.toNatClampNeg
  · subst hq
    simp [updV, va_up, va_rf]
  · simp [updV, va_up, hq]
/-- references by whole numbers -/
theorem z_aald {i n t : Nat} {f : Nat → Option Nat} {a : Int} (hd : decode y.2.1 pc = .ok (.aaload, 1)) (hm : mem[i]? = some (.inl (t, n, .inr (.inr (.inr (.inr f)))))) (ht : t = 5 ∨ t = 6 ∨ t = 7 ∨ t = 8) (h0 : 0 ≤ a) (h1 : a < n) (ha : R32 a) (kk : SJ g y d (pc + 1) L (va_rf (f a.toNat) :: st) mem bc bs Q) : SJ g y d pc L (.int (ii a) :: .ref i :: st) mem bc bs Q :=
  j_aald hd hm ht (ii_in h0 h1 ha) (by rw [ii_nat ha]; exact kk)
theorem z_aast {i n t ci : Nat} {f : Nat → Option Nat} {o : Option Nat} {a : Int} (hC : (t = 5 ∧ ci = 10) ∨ (t = 6 ∧ ci = 7)) (hd : decode y.2.1 pc = .ok (.aastore, 1)) (hm : mem[i]? = some (.inl (t, n, .inr (.inr (.inr (.inr f)))))) (hv : ∀ k, o = some k → ∃ fs, mem[k]? = some (.inr (ci, fs))) (h0 : 0 ≤ a) (h1 : a < n) (ha : R32 a) (kk : SJ g y d (pc + 1) L st (mem.set i (.inl (t, n, .inr (.inr (.inr (.inr (va_up f a.toNat o))))))) bc bs Q) : SJ g y d pc L (va_rf o :: .int (ii a) :: .ref i :: st) mem bc bs Q := by
  cases o with
  | none => exact j_aastN (by omega) hd hm (ii_in h0 h1 ha) (by rw [ii_nat ha]; exact kk)
  | some k =>
    obtain ⟨fs, hk⟩ := hv k rfl
    exact j_aast hC hd hm hk (ii_in h0 h1 ha) (by rw [ii_nat ha]; exact kk)
end SJREF
/-! texts behind a world: each an object and seven arrays -/
abbrev TD : Type := Int × Int × (Int → Int) × (Int → Int) × (Int → Int) × (Int → Int) × (Int → Int) × (Int → Int) × (Int → Int)
/-- clauses, size, kinds, firsts, seconds, tests, times, steps, values -/
def tdC (b : Nat) (t : TD) : List xM := [.inr (10, [.ref (b + 1), .ref (b + 2), .ref (b + 3), .ref (b + 4), .ref (b + 5), .ref (b + 6), .ref (b + 7), .int (ii t.1), .int (ii t.2.1)]), .inl (0, t.1.toNat, .inl (ia t.2.2.1)), .inl (0, t.1.toNat, .inl (ia t.2.2.2.1)), .inl (0, t.1.toNat, .inl (ia t.2.2.2.2.1)), .inl (0, t.1.toNat, .inl (ia t.2.2.2.2.2.1)), .inl (0, t.1.toNat, .inl (ia t.2.2.2.2.2.2.1)), .inl (0, t.2.1.toNat, .inl (ia t.2.2.2.2.2.2.2.1)), .inl (0, t.2.1.toNat, .inl (ia t.2.2.2.2.2.2.2.2))]
def TX : Nat → List TD → List xM
  | _, [] => []
  | b, t :: ts => tdC b t ++ TX (b + 8) ts
theorem TX_len : ∀ (ts : List TD) (b : Nat), (TX b ts).length = 8 * ts.length
  | [], b => rfl
  | t :: ts, b => by
    show (tdC b t ++ TX (b + 8) ts).length = _
    rw [List.length_append, TX_len ts, List.length_cons]
    show 8 + _ = _
    omega
theorem TX_at {t : TD} : ∀ (ts : List TD) (b j m : Nat), ts[j]? = some t → m < 8 → (TX b ts)[8 * j + m]? = (tdC (b + 8 * j) t)[m]?
  | [], b, j, m, h, hm => by simp at h
  | t0 :: ts, b, 0, m, h, hm => by
    simp at h
    subst h
    show (tdC b t0 ++ TX (b + 8) ts)[8 * 0 + m]? = _
    rw [show 8 * 0 + m = m by omega, List.getElem?_append_left (by show m < 8; omega)]
    rfl
  | t0 :: ts, b, j + 1, m, h, hm => by
    show (tdC b t0 ++ TX (b + 8) ts)[8 * (j + 1) + m]? = _
    rw [List.getElem?_append_right (by show 8 ≤ _; omega), show 8 * (j + 1) + m - (tdC b t0).length = 8 * j + m by show 8 * (j + 1) + m - 8 = _; omega, TX_at ts (b + 8) j m (by simpa using h) hm, show b + 8 + 8 * j = b + 8 * (j + 1) by omega]
theorem TX_map {sg : Nat → Nat} : ∀ (ts : List TD) (b b2 : Nat), (∀ k, sg (b + k) = b2 + k) → (TX b ts).map (r_e sg) = TX b2 ts
  | [], b, b2, h => rfl
  | t :: ts, b, b2, h => by
    show (tdC b t ++ TX (b + 8) ts).map (r_e sg) = tdC b2 t ++ TX (b2 + 8) ts
    rw [List.map_append, TX_map ts (b + 8) (b2 + 8) (fun k => by rw [show b + 8 + k = b + (8 + k) by omega, h]; omega)]
    congr 1
    show [r_e sg _, _, _, _, _, _, _, _] = tdC b2 t
    simp only [r_e, r_v, List.map_cons, List.map_nil, h]
    rfl
theorem TX_app : ∀ (ts us : List TD) (b : Nat), TX b (ts ++ us) = TX b ts ++ TX (b + 8 * ts.length) us
  | [], us, b => by simp [TX]
  | t :: ts, us, b => by
    show tdC b t ++ TX (b + 8) (ts ++ us) = tdC b t ++ TX (b + 8) ts ++ TX (b + 8 * (t :: ts).length) us
    rw [TX_app ts us (b + 8), List.append_assoc]
    congr 3
    simp only [List.length_cons]
    omega
