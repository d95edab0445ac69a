/-- an answer on the stack -/
def x_cons (r : Option Value) (st : List Value) : List Value := match r with
  | some v => v :: st
  | none => st
theorem x_cons_eq (r : Option Value) (st : List Value) : r.toList ++ st = x_cons r st := by cases r <;> rfl
section SJC
variable {g : Bool} {y : xY} {d pc : Nat} {L : List (Option Value)} {st : List Value} {mem : List xM} {bc bs : Nat} {Q : List xM → Option Value → Prop}
theorem CT.q {y2 : xY} {as : List Value} {mc ms : Nat} {Q Q2 : List xM → Option Value → Prop} (e : Q = Q2) (h : CT g y2 d as mem mc ms Q) : CT g y2 d as mem mc ms Q2 := e ▸ h
theorem v_call0 {y2 : xY} {i ci idx : Nat} {fs : List Value} (hd : decode y.2.1 pc = .ok (.invokevirtual idx, 3)) (hc : x_cv y.1.cls idx y2 0) (hm : mem[i]? = some (.inr (ci, fs))) (hci : ∃ q : vw_C, xcl[ci]? = some q ∧ q.1 = y2.1.cls) (hcat : (st.map fun v => v.category).sum ≤ 8) (kk : CT g y2 d [.ref i] mem 0 0 (fun mem2 r => SJ g y (d + 1) (pc + 3) L (x_cons r st) mem2 bc bs Q)) : SJ g y (d + 1) pc L (.ref i :: st) mem bc bs Q :=
  j_callV (as := []) (st := st) hd hc hm hci rfl rfl hcat (Nat.zero_le _) (Nat.zero_le _) (CT.q (by funext m2 r; rw [x_cons_eq]; rfl) kk)
theorem v_call1 {y2 : xY} {i ci idx : Nat} {fs : List Value} {v1 : Value} (hd : decode y.2.1 pc = .ok (.invokevirtual idx, 3)) (hc : x_cv y.1.cls idx y2 1) (hm : mem[i]? = some (.inr (ci, fs))) (hci : ∃ q : vw_C, xcl[ci]? = some q ∧ q.1 = y2.1.cls) (hcat : (st.map fun v => v.category).sum ≤ 8) (kk : CT g y2 d [.ref i, v1] mem 0 0 (fun mem2 r => SJ g y (d + 1) (pc + 3) L (x_cons r st) mem2 bc bs Q)) : SJ g y (d + 1) pc L (v1 :: .ref i :: st) mem bc bs Q :=
  j_callV (as := [v1]) (st := st) hd hc hm hci rfl rfl hcat (Nat.zero_le _) (Nat.zero_le _) (CT.q (by funext m2 r; rw [x_cons_eq]; rfl) kk)
theorem s_call1 {y2 : xY} {idx : Nat} {v1 : Value} (hd : decode y.2.1 pc = .ok (.invokestatic idx, 3)) (hc : x_cs y.1.cls idx y2 1) (hcat : (st.map fun v => v.category).sum ≤ 8) (kk : CT g y2 d [v1] mem 0 0 (fun mem2 r => SJ g y (d + 1) (pc + 3) L (x_cons r st) mem2 bc bs Q)) : SJ g y (d + 1) pc L (v1 :: st) mem bc bs Q :=
  j_callS (as := [v1]) (st := st) hd hc rfl rfl hcat (Nat.zero_le _) (Nat.zero_le _) (CT.q (by funext m2 r; rw [x_cons_eq]; rfl) kk)
theorem v_call2 {y2 : xY} {i ci idx : Nat} {fs : List Value} {v1 v2 : Value} (hd : decode y.2.1 pc = .ok (.invokevirtual idx, 3)) (hc : x_cv y.1.cls idx y2 2) (hm : mem[i]? = some (.inr (ci, fs))) (hci : ∃ q : vw_C, xcl[ci]? = some q ∧ q.1 = y2.1.cls) (hcat : (st.map fun v => v.category).sum ≤ 8) (kk : CT g y2 d [.ref i, v1, v2] mem 0 0 (fun mem2 r => SJ g y (d + 1) (pc + 3) L (x_cons r st) mem2 bc bs Q)) : SJ g y (d + 1) pc L (v2 :: v1 :: .ref i :: st) mem bc bs Q :=
  j_callV (as := [v1, v2]) (st := st) hd hc hm hci rfl rfl hcat (Nat.zero_le _) (Nat.zero_le _) (CT.q (by funext m2 r; rw [x_cons_eq]; rfl) kk)
theorem s_call2 {y2 : xY} {idx : Nat} {v1 v2 : Value} (hd : decode y.2.1 pc = .ok (.invokestatic idx, 3)) (hc : x_cs y.1.cls idx y2 2) (hcat : (st.map fun v => v.category).sum ≤ 8) (kk : CT g y2 d [v1, v2] mem 0 0 (fun mem2 r => SJ g y (d + 1) (pc + 3) L (x_cons r st) mem2 bc bs Q)) : SJ g y (d + 1) pc L (v2 :: v1 :: st) mem bc bs Q :=
  j_callS (as := [v1, v2]) (st := st) hd hc rfl rfl hcat (Nat.zero_le _) (Nat.zero_le _) (CT.q (by funext m2 r; rw [x_cons_eq]; rfl) kk)
theorem v_call3 {y2 : xY} {i ci idx : Nat} {fs : List Value} {v1 v2 v3 : Value} (hd : decode y.2.1 pc = .ok (.invokevirtual idx, 3)) (hc : x_cv y.1.cls idx y2 3) (hm : mem[i]? = some (.inr (ci, fs))) (hci : ∃ q : vw_C, xcl[ci]? = some q ∧ q.1 = y2.1.cls) (hcat : (st.map fun v => v.category).sum ≤ 8) (kk : CT g y2 d [.ref i, v1, v2, v3] mem 0 0 (fun mem2 r => SJ g y (d + 1) (pc + 3) L (x_cons r st) mem2 bc bs Q)) : SJ g y (d + 1) pc L (v3 :: v2 :: v1 :: .ref i :: st) mem bc bs Q :=
  j_callV (as := [v1, v2, v3]) (st := st) hd hc hm hci rfl rfl hcat (Nat.zero_le _) (Nat.zero_le _) (CT.q (by funext m2 r; rw [x_cons_eq]; rfl) kk)
theorem s_call3 {y2 : xY} {idx : Nat} {v1 v2 v3 : Value} (hd : decode y.2.1 pc = .ok (.invokestatic idx, 3)) (hc : x_cs y.1.cls idx y2 3) (hcat : (st.map fun v => v.category).sum ≤ 8) (kk : CT g y2 d [v1, v2, v3] mem 0 0 (fun mem2 r => SJ g y (d + 1) (pc + 3) L (x_cons r st) mem2 bc bs Q)) : SJ g y (d + 1) pc L (v3 :: v2 :: v1 :: st) mem bc bs Q :=
  j_callS (as := [v1, v2, v3]) (st := st) hd hc rfl rfl hcat (Nat.zero_le _) (Nat.zero_le _) (CT.q (by funext m2 r; rw [x_cons_eq]; rfl) kk)
theorem v_call4 {y2 : xY} {i ci idx : Nat} {fs : List Value} {v1 v2 v3 v4 : Value} (hd : decode y.2.1 pc = .ok (.invokevirtual idx, 3)) (hc : x_cv y.1.cls idx y2 4) (hm : mem[i]? = some (.inr (ci, fs))) (hci : ∃ q : vw_C, xcl[ci]? = some q ∧ q.1 = y2.1.cls) (hcat : (st.map fun v => v.category).sum ≤ 8) (kk : CT g y2 d [.ref i, v1, v2, v3, v4] mem 0 0 (fun mem2 r => SJ g y (d + 1) (pc + 3) L (x_cons r st) mem2 bc bs Q)) : SJ g y (d + 1) pc L (v4 :: v3 :: v2 :: v1 :: .ref i :: st) mem bc bs Q :=
  j_callV (as := [v1, v2, v3, v4]) (st := st) hd hc hm hci rfl rfl hcat (Nat.zero_le _) (Nat.zero_le _) (CT.q (by funext m2 r; rw [x_cons_eq]; rfl) kk)
theorem s_call4 {y2 : xY} {idx : Nat} {v1 v2 v3 v4 : Value} (hd : decode y.2.1 pc = .ok (.invokestatic idx, 3)) (hc : x_cs y.1.cls idx y2 4) (hcat : (st.map fun v => v.category).sum ≤ 8) (kk : CT g y2 d [v1, v2, v3, v4] mem 0 0 (fun mem2 r => SJ g y (d + 1) (pc + 3) L (x_cons r st) mem2 bc bs Q)) : SJ g y (d + 1) pc L (v4 :: v3 :: v2 :: v1 :: st) mem bc bs Q :=
  j_callS (as := [v1, v2, v3, v4]) (st := st) hd hc rfl rfl hcat (Nat.zero_le _) (Nat.zero_le _) (CT.q (by funext m2 r; rw [x_cons_eq]; rfl) kk)
theorem v_call5 {y2 : xY} {i ci idx : Nat} {fs : List Value} {v1 v2 v3 v4 v5 : Value} (hd : decode y.2.1 pc = .ok (.invokevirtual idx, 3)) (hc : x_cv y.1.cls idx y2 5) (hm : mem[i]? = some (.inr (ci, fs))) (hci : ∃ q : vw_C, xcl[ci]? = some q ∧ q.1 = y2.1.cls) (hcat : (st.map fun v => v.category).sum ≤ 8) (kk : CT g y2 d [.ref i, v1, v2, v3, v4, v5] mem 0 0 (fun mem2 r => SJ g y (d + 1) (pc + 3) L (x_cons r st) mem2 bc bs Q)) : SJ g y (d + 1) pc L (v5 :: v4 :: v3 :: v2 :: v1 :: .ref i :: st) mem bc bs Q :=
  j_callV (as := [v1, v2, v3, v4, v5]) (st := st) hd hc hm hci rfl rfl hcat (Nat.zero_le _) (Nat.zero_le _) (CT.q (by funext m2 r; rw [x_cons_eq]; rfl) kk)
theorem s_call5 {y2 : xY} {idx : Nat} {v1 v2 v3 v4 v5 : Value} (hd : decode y.2.1 pc = .ok (.invokestatic idx, 3)) (hc : x_cs y.1.cls idx y2 5) (hcat : (st.map fun v => v.category).sum ≤ 8) (kk : CT g y2 d [v1, v2, v3, v4, v5] mem 0 0 (fun mem2 r => SJ g y (d + 1) (pc + 3) L (x_cons r st) mem2 bc bs Q)) : SJ g y (d + 1) pc L (v5 :: v4 :: v3 :: v2 :: v1 :: st) mem bc bs Q :=
  j_callS (as := [v1, v2, v3, v4, v5]) (st := st) hd hc rfl rfl hcat (Nat.zero_le _) (Nat.zero_le _) (CT.q (by funext m2 r; rw [x_cons_eq]; rfl) kk)
theorem z_iret {a v : Int} (hr : y.2.2.2 = some .int) (hd : decode y.2.1 pc = .ok (.ireturn, 1)) (e : a = v) (hq : Q mem (some (.int (ii v)))) : SJ g y d pc L [.int (ii a)] mem bc bs Q := j_ireturn hr hd (e ▸ hq)
theorem z_lret {a v : Int} (hr : y.2.2.2 = some .long) (hd : decode y.2.1 pc = .ok (.lreturn, 1)) (e : a = v) (hq : Q mem (some (.long (ll v)))) : SJ g y d pc L [.long (ll a)] mem bc bs Q := j_lreturn hr hd (e ▸ hq)
/-- locals that nobody asks any more -/
def x_mask : List Bool → List (Option Value) → List (Option Value)
  | true :: m, o :: L => o :: x_mask m L
  | false :: m, _ :: L => none :: x_mask m L
  | _, _ => []
theorem x_mask_of : ∀ (m : List Bool) (L : List (Option Value)) (i : Nat) (v : Value), (x_mask m L)[i]? = some (some v) → L[i]? = some (some v)
  | true :: m, o :: L, 0, v, h => h
  | false :: m, o :: L, 0, v, h => by simp [x_mask] at h
  | true :: m, o :: L, i + 1, v, h => by
    simp only [x_mask, List.getElem?_cons_succ] at h ⊢
    exact x_mask_of m L i v h
  | false :: m, o :: L, i + 1, v, h => by
    simp only [x_mask, List.getElem?_cons_succ] at h ⊢
    exact x_mask_of m L i v h
  | [], _, i, v, h => by simp [x_mask] at h
  | true :: _, [], i, v, h => by simp [x_mask] at h
  | false :: _, [], i, v, h => by simp [x_mask] at h
theorem SJ.mask (m : List Bool) (k : SJ g y d pc (x_mask m L) st mem bc bs Q) : SJ g y d pc L st mem bc bs Q := by
  intro l ad ex dA D A p e s mm args below meth c H locs cells slots ls mc ms hI
  exact k ⟨hI.1, hI.2.1, hI.2.2.1, hI.2.2.2.1, ⟨hI.2.2.2.2.1.1, hI.2.2.2.2.1.2.1, fun i v h => hI.2.2.2.2.1.2.2 i v (x_mask_of m L i v h)⟩, hI.2.2.2.2.2⟩
theorem z_case {a : Int} (k : Int) (kt : a = k → SJ g y d pc L (.int (ii a) :: st) mem bc bs Q) (kf : a ≠ k → SJ g y d pc L (.int (ii a) :: st) mem bc bs Q) : SJ g y d pc L (.int (ii a) :: st) mem bc bs Q := by
  by_cases h : a = k
  · exact kt h
  · exact kf h
theorem z_tabIn {a df lo hi o : Int} {os : Array Int} {n t : Nat} (hd : decode y.2.1 pc = .ok (.tableswitch df lo hi os, n)) (ha : R32 a) (h1 : lo ≤ a) (h2 : a ≤ hi) (ho : os[(a - lo).toNat]? = some o) (ht : (pc : Int) + o = (t : Int)) (k : SJ g y d t L st mem bc bs Q) : SJ g y d pc L (.int (ii a) :: st) mem bc bs Q := j_tabIn hd (by rw [ii_toInt ha]; omega) (by rw [ii_toInt ha]; omega) (by rw [ii_toInt ha]; exact ho) ht k
theorem z_tabOut {a df lo hi : Int} {os : Array Int} {n t : Nat} (hd : decode y.2.1 pc = .ok (.tableswitch df lo hi os, n)) (ha : R32 a) (h : a < lo ∨ hi < a) (ht : (pc : Int) + df = (t : Int)) (k : SJ g y d t L st mem bc bs Q) : SJ g y d pc L (.int (ii a) :: st) mem bc bs Q := j_tabOut hd (by rw [ii_toInt ha]; exact h) ht k
theorem z_lookIn {a c df o : Int} {ps : Array (Int × Int)} {n t : Nat} (hd : decode y.2.1 pc = .ok (.lookupswitch df ps, n)) (ha : R32 a) (e : a = c) (hp : (ps.toList.zip (ps.toList.drop 1)).all (fun (a, next) => a.1 < next.1) = true) (ho : Op.lookupswitch.offset ps.toList df c = o) (ht : (pc : Int) + o = (t : Int)) (k : SJ g y d t L st mem bc bs Q) : SJ g y d pc L (.int (ii a) :: st) mem bc bs Q := j_look hd hp (by rw [ii_toInt ha, e]; exact ho) ht k
theorem z_lookOut {a df : Int} {ps : Array (Int × Int)} {n t : Nat} (hd : decode y.2.1 pc = .ok (.lookupswitch df ps, n)) (ha : R32 a) (ho : Op.lookupswitch.offset ps.toList df a = df) (hp : (ps.toList.zip (ps.toList.drop 1)).all (fun (a, next) => a.1 < next.1) = true) (ht : (pc : Int) + df = (t : Int)) (k : SJ g y d t L st mem bc bs Q) : SJ g y d pc L (.int (ii a) :: st) mem bc bs Q := j_look hd hp (by rw [ii_toInt ha]; exact ho) ht k
theorem cpy_0 {x z : Int → Int} {sp dp : Int} : cpy x z sp dp 0 = z := by
  funext k
  unfold cpy
  rw [if_neg (by omega)]
theorem cpy_s {x z : Int → Int} {sp dp n b v : Int} (h : 0 ≤ n) (e1 : b = dp + n) (e2 : v = x (sp + n)) : up (cpy x z sp dp n) b v = cpy x z sp dp (n + 1) := by
  funext k
  unfold up cpy
  by_cases hk : k = b
  · rw [if_pos hk, if_pos (by omega), e2]
    congr 1
    omega
  · rw [if_neg hk]
    by_cases h1 : dp ≤ k ∧ k < dp + n
    · rw [if_pos h1, if_pos (by omega)]
    · rw [if_neg h1, if_neg (by omega)]
end SJC
