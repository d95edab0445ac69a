/-! copies -/
def LXV (mx : Nat → Option Nat) (ts : List TD) : Prop := ∀ f j, f < 6 → mx f = some j → j < ts.length
theorem TX_law {cs : List xM} {b j : Nat} {ts : List TD} (hl : cs.length = b) (hj : j < ts.length) : ∃ fs, (cs ++ TX b ts)[b + 8 * j]? = some (.inr (10, fs)) := by
  have ht := List.getElem?_eq_getElem hj
  rw [List.getElem?_append_right (by omega), show b + 8 * j - cs.length = 8 * j + 0 by omega, TX_at ts b j 0 ht (by omega)]
  exact ⟨_, rfl⟩
theorem lwR_up {b k : Nat} {lx mx : Nat → Option Nat} : va_up (lwR b lx) k (lwR b mx k) = lwR b (va_up lx k (mx k)) := by
  funext i
  unfold va_up lwR
  by_cases c : i = k
  · subst c
    simp
  · simp [c]
def W_SC (lc : Int) (fo : Int) (rn : Int) (rl : Int) (rp : Int) (qc : Int) (qf : Int) (qn : Int) (ql : Int) (qp : Int) (rs : Int → Int) (rm : Int → Int) (rd : Int → Int) (ro : Int → Int) (tm : Int → Int) (qs : Int → Int) (qm : Int → Int) (qd : Int → Int) (qo : Int → Int) (qt : Int → Int) (lx : Nat → Option Nat) (mx : Nat → Option Nat) (ts : List TD) : List xM := [.inr (7, [.ref 1, .ref 6, .ref 14, .int (ii lc), .int (ii fo)]), .inr (5, [.ref 2, .int (ii rn), .ref 3, .ref 4, .ref 5, .int (ii rl), .int (ii rp)]), .inl (0, 20, .inl (ia (rs))), .inl (0, 20, .inl (ia (rm))), .inl (0, 20, .inl (ia (rd))), .inl (0, 20, .inl (ia (ro))), .inl (0, 3, .inl (ia (tm))), .inr (7, [.ref 8, .ref 13, .ref 15, .int (ii qc), .int (ii qf)]), .inr (5, [.ref 9, .int (ii qn), .ref 10, .ref 11, .ref 12, .int (ii ql), .int (ii qp)]), .inl (0, 20, .inl (ia (qs))), .inl (0, 20, .inl (ia (qm))), .inl (0, 20, .inl (ia (qd))), .inl (0, 20, .inl (ia (qo))), .inl (0, 3, .inl (ia (qt))), .inl (5, 6, .inr (.inr (.inr (.inr (lwR 16 lx))))), .inl (5, 6, .inr (.inr (.inr (.inr (lwR 16 mx)))))] ++ TX 16 ts
section WR_SC
variable {g : Bool} {y : xY} {d pc : Nat} {L : List (Option Value)} {zst : List Value} {bc bs : Nat} {Q : List xM → Option Value → Prop} {lc fo rn rl rp qc qf qn ql qp : Int} {rs rm rd ro tm qs qm qd qo qt : Int → Int} {lx mx : Nat → Option Nat} {ts : List TD} 
theorem gf_SC_0_0 {idx : Nat} (hf : x_fs y.1.cls idx 7 0) (hd : decode y.2.1 pc = .ok (.getfield idx, 3)) (kk : SJ g y d (pc + 3) L (.ref 1 :: zst) (W_SC lc fo rn rl rp qc qf qn ql qp rs rm rd ro tm qs qm qd qo qt lx mx ts) bc bs Q) : SJ g y d pc L (.ref 0 :: zst) (W_SC lc fo rn rl rp qc qf qn ql qp rs rm rd ro tm qs qm qd qo qt lx mx ts) bc bs Q := j_getf hd hf rfl rfl kk
theorem gf_SC_0_1 {idx : Nat} (hf : x_fs y.1.cls idx 7 1) (hd : decode y.2.1 pc = .ok (.getfield idx, 3)) (kk : SJ g y d (pc + 3) L (.ref 6 :: zst) (W_SC lc fo rn rl rp qc qf qn ql qp rs rm rd ro tm qs qm qd qo qt lx mx ts) bc bs Q) : SJ g y d pc L (.ref 0 :: zst) (W_SC lc fo rn rl rp qc qf qn ql qp rs rm rd ro tm qs qm qd qo qt lx mx ts) bc bs Q := j_getf hd hf rfl rfl kk
theorem gf_SC_0_2 {idx : Nat} (hf : x_fs y.1.cls idx 7 2) (hd : decode y.2.1 pc = .ok (.getfield idx, 3)) (kk : SJ g y d (pc + 3) L (.ref 14 :: zst) (W_SC lc fo rn rl rp qc qf qn ql qp rs rm rd ro tm qs qm qd qo qt lx mx ts) bc bs Q) : SJ g y d pc L (.ref 0 :: zst) (W_SC lc fo rn rl rp qc qf qn ql qp rs rm rd ro tm qs qm qd qo qt lx mx ts) bc bs Q := j_getf hd hf rfl rfl kk
theorem gf_SC_0_3 {idx : Nat} (hf : x_fs y.1.cls idx 7 3) (hd : decode y.2.1 pc = .ok (.getfield idx, 3)) (kk : SJ g y d (pc + 3) L (.int (ii lc) :: zst) (W_SC lc fo rn rl rp qc qf qn ql qp rs rm rd ro tm qs qm qd qo qt lx mx ts) bc bs Q) : SJ g y d pc L (.ref 0 :: zst) (W_SC lc fo rn rl rp qc qf qn ql qp rs rm rd ro tm qs qm qd qo qt lx mx ts) bc bs Q := j_getf hd hf rfl rfl kk
theorem pf_SC_0_3 {idx : Nat} {v : Int} (hf : x_fs y.1.cls idx 7 3) (hd : decode y.2.1 pc = .ok (.putfield idx, 3)) (kk : SJ g y d (pc + 3) L zst (W_SC v fo rn rl rp qc qf qn ql qp rs rm rd ro tm qs qm qd qo qt lx mx ts) bc bs Q) : SJ g y d pc L (.int (ii v) :: .ref 0 :: zst) (W_SC lc fo rn rl rp qc qf qn ql qp rs rm rd ro tm qs qm qd qo qt lx mx ts) bc bs Q := j_putf (ci := 7) (k := 3) hd hf ⟨_, rfl, rfl, rfl⟩ rfl (Nat.le_of_ble_eq_true rfl) x_okI kk
theorem gf_SC_0_4 {idx : Nat} (hf : x_fs y.1.cls idx 7 4) (hd : decode y.2.1 pc = .ok (.getfield idx, 3)) (kk : SJ g y d (pc + 3) L (.int (ii fo) :: zst) (W_SC lc fo rn rl rp qc qf qn ql qp rs rm rd ro tm qs qm qd qo qt lx mx ts) bc bs Q) : SJ g y d pc L (.ref 0 :: zst) (W_SC lc fo rn rl rp qc qf qn ql qp rs rm rd ro tm qs qm qd qo qt lx mx ts) bc bs Q := j_getf hd hf rfl rfl kk
theorem pf_SC_0_4 {idx : Nat} {v : Int} (hf : x_fs y.1.cls idx 7 4) (hd : decode y.2.1 pc = .ok (.putfield idx, 3)) (kk : SJ g y d (pc + 3) L zst (W_SC lc v rn rl rp qc qf qn ql qp rs rm rd ro tm qs qm qd qo qt lx mx ts) bc bs Q) : SJ g y d pc L (.int (ii v) :: .ref 0 :: zst) (W_SC lc fo rn rl rp qc qf qn ql qp rs rm rd ro tm qs qm qd qo qt lx mx ts) bc bs Q := j_putf (ci := 7) (k := 4) hd hf ⟨_, rfl, rfl, rfl⟩ rfl (Nat.le_of_ble_eq_true rfl) x_okI kk
theorem gf_SC_1_0 {idx : Nat} (hf : x_fs y.1.cls idx 5 0) (hd : decode y.2.1 pc = .ok (.getfield idx, 3)) (kk : SJ g y d (pc + 3) L (.ref 2 :: zst) (W_SC lc fo rn rl rp qc qf qn ql qp rs rm rd ro tm qs qm qd qo qt lx mx ts) bc bs Q) : SJ g y d pc L (.ref 1 :: zst) (W_SC lc fo rn rl rp qc qf qn ql qp rs rm rd ro tm qs qm qd qo qt lx mx ts) bc bs Q := j_getf hd hf rfl rfl kk
theorem gf_SC_1_1 {idx : Nat} (hf : x_fs y.1.cls idx 5 1) (hd : decode y.2.1 pc = .ok (.getfield idx, 3)) (kk : SJ g y d (pc + 3) L (.int (ii rn) :: zst) (W_SC lc fo rn rl rp qc qf qn ql qp rs rm rd ro tm qs qm qd qo qt lx mx ts) bc bs Q) : SJ g y d pc L (.ref 1 :: zst) (W_SC lc fo rn rl rp qc qf qn ql qp rs rm rd ro tm qs qm qd qo qt lx mx ts) bc bs Q := j_getf hd hf rfl rfl kk
theorem pf_SC_1_1 {idx : Nat} {v : Int} (hf : x_fs y.1.cls idx 5 1) (hd : decode y.2.1 pc = .ok (.putfield idx, 3)) (kk : SJ g y d (pc + 3) L zst (W_SC lc fo v rl rp qc qf qn ql qp rs rm rd ro tm qs qm qd qo qt lx mx ts) bc bs Q) : SJ g y d pc L (.int (ii v) :: .ref 1 :: zst) (W_SC lc fo rn rl rp qc qf qn ql qp rs rm rd ro tm qs qm qd qo qt lx mx ts) bc bs Q := j_putf (ci := 5) (k := 1) hd hf ⟨_, rfl, rfl, rfl⟩ rfl (Nat.le_of_ble_eq_true rfl) x_okI kk
theorem gf_SC_1_2 {idx : Nat} (hf : x_fs y.1.cls idx 5 2) (hd : decode y.2.1 pc = .ok (.getfield idx, 3)) (kk : SJ g y d (pc + 3) L (.ref 3 :: zst) (W_SC lc fo rn rl rp qc qf qn ql qp rs rm rd ro tm qs qm qd qo qt lx mx ts) bc bs Q) : SJ g y d pc L (.ref 1 :: zst) (W_SC lc fo rn rl rp qc qf qn ql qp rs rm rd ro tm qs qm qd qo qt lx mx ts) bc bs Q := j_getf hd hf rfl rfl kk
theorem gf_SC_1_3 {idx : Nat} (hf : x_fs y.1.cls idx 5 3) (hd : decode y.2.1 pc = .ok (.getfield idx, 3)) (kk : SJ g y d (pc + 3) L (.ref 4 :: zst) (W_SC lc fo rn rl rp qc qf qn ql qp rs rm rd ro tm qs qm qd qo qt lx mx ts) bc bs Q) : SJ g y d pc L (.ref 1 :: zst) (W_SC lc fo rn rl rp qc qf qn ql qp rs rm rd ro tm qs qm qd qo qt lx mx ts) bc bs Q := j_getf hd hf rfl rfl kk
theorem gf_SC_1_4 {idx : Nat} (hf : x_fs y.1.cls idx 5 4) (hd : decode y.2.1 pc = .ok (.getfield idx, 3)) (kk : SJ g y d (pc + 3) L (.ref 5 :: zst) (W_SC lc fo rn rl rp qc qf qn ql qp rs rm rd ro tm qs qm qd qo qt lx mx ts) bc bs Q) : SJ g y d pc L (.ref 1 :: zst) (W_SC lc fo rn rl rp qc qf qn ql qp rs rm rd ro tm qs qm qd qo qt lx mx ts) bc bs Q := j_getf hd hf rfl rfl kk
theorem gf_SC_1_5 {idx : Nat} (hf : x_fs y.1.cls idx 5 5) (hd : decode y.2.1 pc = .ok (.getfield idx, 3)) (kk : SJ g y d (pc + 3) L (.int (ii rl) :: zst) (W_SC lc fo rn rl rp qc qf qn ql qp rs rm rd ro tm qs qm qd qo qt lx mx ts) bc bs Q) : SJ g y d pc L (.ref 1 :: zst) (W_SC lc fo rn rl rp qc qf qn ql qp rs rm rd ro tm qs qm qd qo qt lx mx ts) bc bs Q := j_getf hd hf rfl rfl kk
theorem pf_SC_1_5 {idx : Nat} {v : Int} (hf : x_fs y.1.cls idx 5 5) (hd : decode y.2.1 pc = .ok (.putfield idx, 3)) (kk : SJ g y d (pc + 3) L zst (W_SC lc fo rn v rp qc qf qn ql qp rs rm rd ro tm qs qm qd qo qt lx mx ts) bc bs Q) : SJ g y d pc L (.int (ii v) :: .ref 1 :: zst) (W_SC lc fo rn rl rp qc qf qn ql qp rs rm rd ro tm qs qm qd qo qt lx mx ts) bc bs Q := j_putf (ci := 5) (k := 5) hd hf ⟨_, rfl, rfl, rfl⟩ rfl (Nat.le_of_ble_eq_true rfl) x_okI kk
theorem gf_SC_1_6 {idx : Nat} (hf : x_fs y.1.cls idx 5 6) (hd : decode y.2.1 pc = .ok (.getfield idx, 3)) (kk : SJ g y d (pc + 3) L (.int (ii rp) :: zst) (W_SC lc fo rn rl rp qc qf qn ql qp rs rm rd ro tm qs qm qd qo qt lx mx ts) bc bs Q) : SJ g y d pc L (.ref 1 :: zst) (W_SC lc fo rn rl rp qc qf qn ql qp rs rm rd ro tm qs qm qd qo qt lx mx ts) bc bs Q := j_getf hd hf rfl rfl kk
theorem pf_SC_1_6 {idx : Nat} {v : Int} (hf : x_fs y.1.cls idx 5 6) (hd : decode y.2.1 pc = .ok (.putfield idx, 3)) (hv : v = 0 ∨ v = 1) (kk : SJ g y d (pc + 3) L zst (W_SC lc fo rn rl v qc qf qn ql qp rs rm rd ro tm qs qm qd qo qt lx mx ts) bc bs Q) : SJ g y d pc L (.int (ii v) :: .ref 1 :: zst) (W_SC lc fo rn rl rp qc qf qn ql qp rs rm rd ro tm qs qm qd qo qt lx mx ts) bc bs Q := j_putf (ci := 5) (k := 6) hd hf ⟨_, rfl, rfl, rfl⟩ rfl (Nat.le_of_ble_eq_true rfl) (by rcases hv with rfl | rfl; exact x_ok0; exact x_ok1) kk
theorem al_SC_2 {a : Int} (hd : decode y.2.1 pc = .ok (.iaload, 1)) (h0 : 0 ≤ a) (h1 : a < 20) (kk : SJ g y d (pc + 1) L (.int (ii (rs a)) :: zst) (W_SC lc fo rn rl rp qc qf qn ql qp rs rm rd ro tm qs qm qd qo qt lx mx ts) bc bs Q) : SJ g y d pc L (.int (ii a) :: .ref 2 :: zst) (W_SC lc fo rn rl rp qc qf qn ql qp rs rm rd ro tm qs qm qd qo qt lx mx ts) bc bs Q := z_iald hd rfl h0 h1 ⟨by omega, by omega⟩ kk
theorem as_SC_2 {a v : Int} (hd : decode y.2.1 pc = .ok (.iastore, 1)) (h0 : 0 ≤ a) (h1 : a < 20) (kk : SJ g y d (pc + 1) L zst (W_SC lc fo rn rl rp qc qf qn ql qp (up rs a v) rm rd ro tm qs qm qd qo qt lx mx ts) bc bs Q) : SJ g y d pc L (.int (ii v) :: .int (ii a) :: .ref 2 :: zst) (W_SC lc fo rn rl rp qc qf qn ql qp rs rm rd ro tm qs qm qd qo qt lx mx ts) bc bs Q := z_iast hd rfl h0 h1 ⟨by omega, by omega⟩ kk
theorem al_SC_3 {a : Int} (hd : decode y.2.1 pc = .ok (.iaload, 1)) (h0 : 0 ≤ a) (h1 : a < 20) (kk : SJ g y d (pc + 1) L (.int (ii (rm a)) :: zst) (W_SC lc fo rn rl rp qc qf qn ql qp rs rm rd ro tm qs qm qd qo qt lx mx ts) bc bs Q) : SJ g y d pc L (.int (ii a) :: .ref 3 :: zst) (W_SC lc fo rn rl rp qc qf qn ql qp rs rm rd ro tm qs qm qd qo qt lx mx ts) bc bs Q := z_iald hd rfl h0 h1 ⟨by omega, by omega⟩ kk
theorem as_SC_3 {a v : Int} (hd : decode y.2.1 pc = .ok (.iastore, 1)) (h0 : 0 ≤ a) (h1 : a < 20) (kk : SJ g y d (pc + 1) L zst (W_SC lc fo rn rl rp qc qf qn ql qp rs (up rm a v) rd ro tm qs qm qd qo qt lx mx ts) bc bs Q) : SJ g y d pc L (.int (ii v) :: .int (ii a) :: .ref 3 :: zst) (W_SC lc fo rn rl rp qc qf qn ql qp rs rm rd ro tm qs qm qd qo qt lx mx ts) bc bs Q := z_iast hd rfl h0 h1 ⟨by omega, by omega⟩ kk
theorem al_SC_4 {a : Int} (hd : decode y.2.1 pc = .ok (.iaload, 1)) (h0 : 0 ≤ a) (h1 : a < 20) (kk : SJ g y d (pc + 1) L (.int (ii (rd a)) :: zst) (W_SC lc fo rn rl rp qc qf qn ql qp rs rm rd ro tm qs qm qd qo qt lx mx ts) bc bs Q) : SJ g y d pc L (.int (ii a) :: .ref 4 :: zst) (W_SC lc fo rn rl rp qc qf qn ql qp rs rm rd ro tm qs qm qd qo qt lx mx ts) bc bs Q := z_iald hd rfl h0 h1 ⟨by omega, by omega⟩ kk
theorem as_SC_4 {a v : Int} (hd : decode y.2.1 pc = .ok (.iastore, 1)) (h0 : 0 ≤ a) (h1 : a < 20) (kk : SJ g y d (pc + 1) L zst (W_SC lc fo rn rl rp qc qf qn ql qp rs rm (up rd a v) ro tm qs qm qd qo qt lx mx ts) bc bs Q) : SJ g y d pc L (.int (ii v) :: .int (ii a) :: .ref 4 :: zst) (W_SC lc fo rn rl rp qc qf qn ql qp rs rm rd ro tm qs qm qd qo qt lx mx ts) bc bs Q := z_iast hd rfl h0 h1 ⟨by omega, by omega⟩ kk
theorem al_SC_5 {a : Int} (hd : decode y.2.1 pc = .ok (.iaload, 1)) (h0 : 0 ≤ a) (h1 : a < 20) (kk : SJ g y d (pc + 1) L (.int (ii (ro a)) :: zst) (W_SC lc fo rn rl rp qc qf qn ql qp rs rm rd ro tm qs qm qd qo qt lx mx ts) bc bs Q) : SJ g y d pc L (.int (ii a) :: .ref 5 :: zst) (W_SC lc fo rn rl rp qc qf qn ql qp rs rm rd ro tm qs qm qd qo qt lx mx ts) bc bs Q := z_iald hd rfl h0 h1 ⟨by omega, by omega⟩ kk
theorem as_SC_5 {a v : Int} (hd : decode y.2.1 pc = .ok (.iastore, 1)) (h0 : 0 ≤ a) (h1 : a < 20) (kk : SJ g y d (pc + 1) L zst (W_SC lc fo rn rl rp qc qf qn ql qp rs rm rd (up ro a v) tm qs qm qd qo qt lx mx ts) bc bs Q) : SJ g y d pc L (.int (ii v) :: .int (ii a) :: .ref 5 :: zst) (W_SC lc fo rn rl rp qc qf qn ql qp rs rm rd ro tm qs qm qd qo qt lx mx ts) bc bs Q := z_iast hd rfl h0 h1 ⟨by omega, by omega⟩ kk
theorem al_SC_6 {a : Int} (hd : decode y.2.1 pc = .ok (.iaload, 1)) (h0 : 0 ≤ a) (h1 : a < 3) (kk : SJ g y d (pc + 1) L (.int (ii (tm a)) :: zst) (W_SC lc fo rn rl rp qc qf qn ql qp rs rm rd ro tm qs qm qd qo qt lx mx ts) bc bs Q) : SJ g y d pc L (.int (ii a) :: .ref 6 :: zst) (W_SC lc fo rn rl rp qc qf qn ql qp rs rm rd ro tm qs qm qd qo qt lx mx ts) bc bs Q := z_iald hd rfl h0 h1 ⟨by omega, by omega⟩ kk
theorem as_SC_6 {a v : Int} (hd : decode y.2.1 pc = .ok (.iastore, 1)) (h0 : 0 ≤ a) (h1 : a < 3) (kk : SJ g y d (pc + 1) L zst (W_SC lc fo rn rl rp qc qf qn ql qp rs rm rd ro (up tm a v) qs qm qd qo qt lx mx ts) bc bs Q) : SJ g y d pc L (.int (ii v) :: .int (ii a) :: .ref 6 :: zst) (W_SC lc fo rn rl rp qc qf qn ql qp rs rm rd ro tm qs qm qd qo qt lx mx ts) bc bs Q := z_iast hd rfl h0 h1 ⟨by omega, by omega⟩ kk
theorem gf_SC_7_0 {idx : Nat} (hf : x_fs y.1.cls idx 7 0) (hd : decode y.2.1 pc = .ok (.getfield idx, 3)) (kk : SJ g y d (pc + 3) L (.ref 8 :: zst) (W_SC lc fo rn rl rp qc qf qn ql qp rs rm rd ro tm qs qm qd qo qt lx mx ts) bc bs Q) : SJ g y d pc L (.ref 7 :: zst) (W_SC lc fo rn rl rp qc qf qn ql qp rs rm rd ro tm qs qm qd qo qt lx mx ts) bc bs Q := j_getf hd hf rfl rfl kk
theorem gf_SC_7_1 {idx : Nat} (hf : x_fs y.1.cls idx 7 1) (hd : decode y.2.1 pc = .ok (.getfield idx, 3)) (kk : SJ g y d (pc + 3) L (.ref 13 :: zst) (W_SC lc fo rn rl rp qc qf qn ql qp rs rm rd ro tm qs qm qd qo qt lx mx ts) bc bs Q) : SJ g y d pc L (.ref 7 :: zst) (W_SC lc fo rn rl rp qc qf qn ql qp rs rm rd ro tm qs qm qd qo qt lx mx ts) bc bs Q := j_getf hd hf rfl rfl kk
theorem gf_SC_7_2 {idx : Nat} (hf : x_fs y.1.cls idx 7 2) (hd : decode y.2.1 pc = .ok (.getfield idx, 3)) (kk : SJ g y d (pc + 3) L (.ref 15 :: zst) (W_SC lc fo rn rl rp qc qf qn ql qp rs rm rd ro tm qs qm qd qo qt lx mx ts) bc bs Q) : SJ g y d pc L (.ref 7 :: zst) (W_SC lc fo rn rl rp qc qf qn ql qp rs rm rd ro tm qs qm qd qo qt lx mx ts) bc bs Q := j_getf hd hf rfl rfl kk
theorem gf_SC_7_3 {idx : Nat} (hf : x_fs y.1.cls idx 7 3) (hd : decode y.2.1 pc = .ok (.getfield idx, 3)) (kk : SJ g y d (pc + 3) L (.int (ii qc) :: zst) (W_SC lc fo rn rl rp qc qf qn ql qp rs rm rd ro tm qs qm qd qo qt lx mx ts) bc bs Q) : SJ g y d pc L (.ref 7 :: zst) (W_SC lc fo rn rl rp qc qf qn ql qp rs rm rd ro tm qs qm qd qo qt lx mx ts) bc bs Q := j_getf hd hf rfl rfl kk
theorem pf_SC_7_3 {idx : Nat} {v : Int} (hf : x_fs y.1.cls idx 7 3) (hd : decode y.2.1 pc = .ok (.putfield idx, 3)) (kk : SJ g y d (pc + 3) L zst (W_SC lc fo rn rl rp v qf qn ql qp rs rm rd ro tm qs qm qd qo qt lx mx ts) bc bs Q) : SJ g y d pc L (.int (ii v) :: .ref 7 :: zst) (W_SC lc fo rn rl rp qc qf qn ql qp rs rm rd ro tm qs qm qd qo qt lx mx ts) bc bs Q := j_putf (ci := 7) (k := 3) hd hf ⟨_, rfl, rfl, rfl⟩ rfl (Nat.le_of_ble_eq_true rfl) x_okI kk
theorem gf_SC_7_4 {idx : Nat} (hf : x_fs y.1.cls idx 7 4) (hd : decode y.2.1 pc = .ok (.getfield idx, 3)) (kk : SJ g y d (pc + 3) L (.int (ii qf) :: zst) (W_SC lc fo rn rl rp qc qf qn ql qp rs rm rd ro tm qs qm qd qo qt lx mx ts) bc bs Q) : SJ g y d pc L (.ref 7 :: zst) (W_SC lc fo rn rl rp qc qf qn ql qp rs rm rd ro tm qs qm qd qo qt lx mx ts) bc bs Q := j_getf hd hf rfl rfl kk
theorem pf_SC_7_4 {idx : Nat} {v : Int} (hf : x_fs y.1.cls idx 7 4) (hd : decode y.2.1 pc = .ok (.putfield idx, 3)) (kk : SJ g y d (pc + 3) L zst (W_SC lc fo rn rl rp qc v qn ql qp rs rm rd ro tm qs qm qd qo qt lx mx ts) bc bs Q) : SJ g y d pc L (.int (ii v) :: .ref 7 :: zst) (W_SC lc fo rn rl rp qc qf qn ql qp rs rm rd ro tm qs qm qd qo qt lx mx ts) bc bs Q := j_putf (ci := 7) (k := 4) hd hf ⟨_, rfl, rfl, rfl⟩ rfl (Nat.le_of_ble_eq_true rfl) x_okI kk
theorem gf_SC_8_0 {idx : Nat} (hf : x_fs y.1.cls idx 5 0) (hd : decode y.2.1 pc = .ok (.getfield idx, 3)) (kk : SJ g y d (pc + 3) L (.ref 9 :: zst) (W_SC lc fo rn rl rp qc qf qn ql qp rs rm rd ro tm qs qm qd qo qt lx mx ts) bc bs Q) : SJ g y d pc L (.ref 8 :: zst) (W_SC lc fo rn rl rp qc qf qn ql qp rs rm rd ro tm qs qm qd qo qt lx mx ts) bc bs Q := j_getf hd hf rfl rfl kk
theorem gf_SC_8_1 {idx : Nat} (hf : x_fs y.1.cls idx 5 1) (hd : decode y.2.1 pc = .ok (.getfield idx, 3)) (kk : SJ g y d (pc + 3) L (.int (ii qn) :: zst) (W_SC lc fo rn rl rp qc qf qn ql qp rs rm rd ro tm qs qm qd qo qt lx mx ts) bc bs Q) : SJ g y d pc L (.ref 8 :: zst) (W_SC lc fo rn rl rp qc qf qn ql qp rs rm rd ro tm qs qm qd qo qt lx mx ts) bc bs Q := j_getf hd hf rfl rfl kk
theorem pf_SC_8_1 {idx : Nat} {v : Int} (hf : x_fs y.1.cls idx 5 1) (hd : decode y.2.1 pc = .ok (.putfield idx, 3)) (kk : SJ g y d (pc + 3) L zst (W_SC lc fo rn rl rp qc qf v ql qp rs rm rd ro tm qs qm qd qo qt lx mx ts) bc bs Q) : SJ g y d pc L (.int (ii v) :: .ref 8 :: zst) (W_SC lc fo rn rl rp qc qf qn ql qp rs rm rd ro tm qs qm qd qo qt lx mx ts) bc bs Q := j_putf (ci := 5) (k := 1) hd hf ⟨_, rfl, rfl, rfl⟩ rfl (Nat.le_of_ble_eq_true rfl) x_okI kk
theorem gf_SC_8_2 {idx : Nat} (hf : x_fs y.1.cls idx 5 2) (hd : decode y.2.1 pc = .ok (.getfield idx, 3)) (kk : SJ g y d (pc + 3) L (.ref 10 :: zst) (W_SC lc fo rn rl rp qc qf qn ql qp rs rm rd ro tm qs qm qd qo qt lx mx ts) bc bs Q) : SJ g y d pc L (.ref 8 :: zst) (W_SC lc fo rn rl rp qc qf qn ql qp rs rm rd ro tm qs qm qd qo qt lx mx ts) bc bs Q := j_getf hd hf rfl rfl kk
theorem gf_SC_8_3 {idx : Nat} (hf : x_fs y.1.cls idx 5 3) (hd : decode y.2.1 pc = .ok (.getfield idx, 3)) (kk : SJ g y d (pc + 3) L (.ref 11 :: zst) (W_SC lc fo rn rl rp qc qf qn ql qp rs rm rd ro tm qs qm qd qo qt lx mx ts) bc bs Q) : SJ g y d pc L (.ref 8 :: zst) (W_SC lc fo rn rl rp qc qf qn ql qp rs rm rd ro tm qs qm qd qo qt lx mx ts) bc bs Q := j_getf hd hf rfl rfl kk
theorem gf_SC_8_4 {idx : Nat} (hf : x_fs y.1.cls idx 5 4) (hd : decode y.2.1 pc = .ok (.getfield idx, 3)) (kk : SJ g y d (pc + 3) L (.ref 12 :: zst) (W_SC lc fo rn rl rp qc qf qn ql qp rs rm rd ro tm qs qm qd qo qt lx mx ts) bc bs Q) : SJ g y d pc L (.ref 8 :: zst) (W_SC lc fo rn rl rp qc qf qn ql qp rs rm rd ro tm qs qm qd qo qt lx mx ts) bc bs Q := j_getf hd hf rfl rfl kk
theorem gf_SC_8_5 {idx : Nat} (hf : x_fs y.1.cls idx 5 5) (hd : decode y.2.1 pc = .ok (.getfield idx, 3)) (kk : SJ g y d (pc + 3) L (.int (ii ql) :: zst) (W_SC lc fo rn rl rp qc qf qn ql qp rs rm rd ro tm qs qm qd qo qt lx mx ts) bc bs Q) : SJ g y d pc L (.ref 8 :: zst) (W_SC lc fo rn rl rp qc qf qn ql qp rs rm rd ro tm qs qm qd qo qt lx mx ts) bc bs Q := j_getf hd hf rfl rfl kk
theorem pf_SC_8_5 {idx : Nat} {v : Int} (hf : x_fs y.1.cls idx 5 5) (hd : decode y.2.1 pc = .ok (.putfield idx, 3)) (kk : SJ g y d (pc + 3) L zst (W_SC lc fo rn rl rp qc qf qn v qp rs rm rd ro tm qs qm qd qo qt lx mx ts) bc bs Q) : SJ g y d pc L (.int (ii v) :: .ref 8 :: zst) (W_SC lc fo rn rl rp qc qf qn ql qp rs rm rd ro tm qs qm qd qo qt lx mx ts) bc bs Q := j_putf (ci := 5) (k := 5) hd hf ⟨_, rfl, rfl, rfl⟩ rfl (Nat.le_of_ble_eq_true rfl) x_okI kk
theorem gf_SC_8_6 {idx : Nat} (hf : x_fs y.1.cls idx 5 6) (hd : decode y.2.1 pc = .ok (.getfield idx, 3)) (kk : SJ g y d (pc + 3) L (.int (ii qp) :: zst) (W_SC lc fo rn rl rp qc qf qn ql qp rs rm rd ro tm qs qm qd qo qt lx mx ts) bc bs Q) : SJ g y d pc L (.ref 8 :: zst) (W_SC lc fo rn rl rp qc qf qn ql qp rs rm rd ro tm qs qm qd qo qt lx mx ts) bc bs Q := j_getf hd hf rfl rfl kk
theorem pf_SC_8_6 {idx : Nat} {v : Int} (hf : x_fs y.1.cls idx 5 6) (hd : decode y.2.1 pc = .ok (.putfield idx, 3)) (hv : v = 0 ∨ v = 1) (kk : SJ g y d (pc + 3) L zst (W_SC lc fo rn rl rp qc qf qn ql v rs rm rd ro tm qs qm qd qo qt lx mx ts) bc bs Q) : SJ g y d pc L (.int (ii v) :: .ref 8 :: zst) (W_SC lc fo rn rl rp qc qf qn ql qp rs rm rd ro tm qs qm qd qo qt lx mx ts) bc bs Q := j_putf (ci := 5) (k := 6) hd hf ⟨_, rfl, rfl, rfl⟩ rfl (Nat.le_of_ble_eq_true rfl) (by rcases hv with rfl | rfl; exact x_ok0; exact x_ok1) kk
theorem al_SC_9 {a : Int} (hd : decode y.2.1 pc = .ok (.iaload, 1)) (h0 : 0 ≤ a) (h1 : a < 20) (kk : SJ g y d (pc + 1) L (.int (ii (qs a)) :: zst) (W_SC lc fo rn rl rp qc qf qn ql qp rs rm rd ro tm qs qm qd qo qt lx mx ts) bc bs Q) : SJ g y d pc L (.int (ii a) :: .ref 9 :: zst) (W_SC lc fo rn rl rp qc qf qn ql qp rs rm rd ro tm qs qm qd qo qt lx mx ts) bc bs Q := z_iald hd rfl h0 h1 ⟨by omega, by omega⟩ kk
theorem as_SC_9 {a v : Int} (hd : decode y.2.1 pc = .ok (.iastore, 1)) (h0 : 0 ≤ a) (h1 : a < 20) (kk : SJ g y d (pc + 1) L zst (W_SC lc fo rn rl rp qc qf qn ql qp rs rm rd ro tm (up qs a v) qm qd qo qt lx mx ts) bc bs Q) : SJ g y d pc L (.int (ii v) :: .int (ii a) :: .ref 9 :: zst) (W_SC lc fo rn rl rp qc qf qn ql qp rs rm rd ro tm qs qm qd qo qt lx mx ts) bc bs Q := z_iast hd rfl h0 h1 ⟨by omega, by omega⟩ kk
theorem al_SC_10 {a : Int} (hd : decode y.2.1 pc = .ok (.iaload, 1)) (h0 : 0 ≤ a) (h1 : a < 20) (kk : SJ g y d (pc + 1) L (.int (ii (qm a)) :: zst) (W_SC lc fo rn rl rp qc qf qn ql qp rs rm rd ro tm qs qm qd qo qt lx mx ts) bc bs Q) : SJ g y d pc L (.int (ii a) :: .ref 10 :: zst) (W_SC lc fo rn rl rp qc qf qn ql qp rs rm rd ro tm qs qm qd qo qt lx mx ts) bc bs Q := z_iald hd rfl h0 h1 ⟨by omega, by omega⟩ kk
theorem as_SC_10 {a v : Int} (hd : decode y.2.1 pc = .ok (.iastore, 1)) (h0 : 0 ≤ a) (h1 : a < 20) (kk : SJ g y d (pc + 1) L zst (W_SC lc fo rn rl rp qc qf qn ql qp rs rm rd ro tm qs (up qm a v) qd qo qt lx mx ts) bc bs Q) : SJ g y d pc L (.int (ii v) :: .int (ii a) :: .ref 10 :: zst) (W_SC lc fo rn rl rp qc qf qn ql qp rs rm rd ro tm qs qm qd qo qt lx mx ts) bc bs Q := z_iast hd rfl h0 h1 ⟨by omega, by omega⟩ kk
theorem al_SC_11 {a : Int} (hd : decode y.2.1 pc = .ok (.iaload, 1)) (h0 : 0 ≤ a) (h1 : a < 20) (kk : SJ g y d (pc + 1) L (.int (ii (qd a)) :: zst) (W_SC lc fo rn rl rp qc qf qn ql qp rs rm rd ro tm qs qm qd qo qt lx mx ts) bc bs Q) : SJ g y d pc L (.int (ii a) :: .ref 11 :: zst) (W_SC lc fo rn rl rp qc qf qn ql qp rs rm rd ro tm qs qm qd qo qt lx mx ts) bc bs Q := z_iald hd rfl h0 h1 ⟨by omega, by omega⟩ kk
theorem as_SC_11 {a v : Int} (hd : decode y.2.1 pc = .ok (.iastore, 1)) (h0 : 0 ≤ a) (h1 : a < 20) (kk : SJ g y d (pc + 1) L zst (W_SC lc fo rn rl rp qc qf qn ql qp rs rm rd ro tm qs qm (up qd a v) qo qt lx mx ts) bc bs Q) : SJ g y d pc L (.int (ii v) :: .int (ii a) :: .ref 11 :: zst) (W_SC lc fo rn rl rp qc qf qn ql qp rs rm rd ro tm qs qm qd qo qt lx mx ts) bc bs Q := z_iast hd rfl h0 h1 ⟨by omega, by omega⟩ kk
theorem al_SC_12 {a : Int} (hd : decode y.2.1 pc = .ok (.iaload, 1)) (h0 : 0 ≤ a) (h1 : a < 20) (kk : SJ g y d (pc + 1) L (.int (ii (qo a)) :: zst) (W_SC lc fo rn rl rp qc qf qn ql qp rs rm rd ro tm qs qm qd qo qt lx mx ts) bc bs Q) : SJ g y d pc L (.int (ii a) :: .ref 12 :: zst) (W_SC lc fo rn rl rp qc qf qn ql qp rs rm rd ro tm qs qm qd qo qt lx mx ts) bc bs Q := z_iald hd rfl h0 h1 ⟨by omega, by omega⟩ kk
theorem as_SC_12 {a v : Int} (hd : decode y.2.1 pc = .ok (.iastore, 1)) (h0 : 0 ≤ a) (h1 : a < 20) (kk : SJ g y d (pc + 1) L zst (W_SC lc fo rn rl rp qc qf qn ql qp rs rm rd ro tm qs qm qd (up qo a v) qt lx mx ts) bc bs Q) : SJ g y d pc L (.int (ii v) :: .int (ii a) :: .ref 12 :: zst) (W_SC lc fo rn rl rp qc qf qn ql qp rs rm rd ro tm qs qm qd qo qt lx mx ts) bc bs Q := z_iast hd rfl h0 h1 ⟨by omega, by omega⟩ kk
theorem al_SC_13 {a : Int} (hd : decode y.2.1 pc = .ok (.iaload, 1)) (h0 : 0 ≤ a) (h1 : a < 3) (kk : SJ g y d (pc + 1) L (.int (ii (qt a)) :: zst) (W_SC lc fo rn rl rp qc qf qn ql qp rs rm rd ro tm qs qm qd qo qt lx mx ts) bc bs Q) : SJ g y d pc L (.int (ii a) :: .ref 13 :: zst) (W_SC lc fo rn rl rp qc qf qn ql qp rs rm rd ro tm qs qm qd qo qt lx mx ts) bc bs Q := z_iald hd rfl h0 h1 ⟨by omega, by omega⟩ kk
theorem as_SC_13 {a v : Int} (hd : decode y.2.1 pc = .ok (.iastore, 1)) (h0 : 0 ≤ a) (h1 : a < 3) (kk : SJ g y d (pc + 1) L zst (W_SC lc fo rn rl rp qc qf qn ql qp rs rm rd ro tm qs qm qd qo (up qt a v) lx mx ts) bc bs Q) : SJ g y d pc L (.int (ii v) :: .int (ii a) :: .ref 13 :: zst) (W_SC lc fo rn rl rp qc qf qn ql qp rs rm rd ro tm qs qm qd qo qt lx mx ts) bc bs Q := z_iast hd rfl h0 h1 ⟨by omega, by omega⟩ kk
end WR_SC
def W_DC (dz : Int) (ez : Int) (dk : Int → Int) (dl : Int → Int) (dg : Int → Int) (ek : Int → Int) (el : Int → Int) (eg : Int → Int) : List xM := [.inr (1, [.int (ii dz), .ref 8, .ref 9, .ref 1, .ref 2, .ref 3]), .inl (0, 16, .inl (ia (dk))), .inl (0, 16, .inl (ia (dl))), .inl (0, 16, .inl (ia (dg))), .inr (1, [.int (ii ez), .ref 8, .ref 10, .ref 5, .ref 6, .ref 7]), .inl (0, 16, .inl (ia (ek))), .inl (0, 16, .inl (ia (el))), .inl (0, 16, .inl (ia (eg)))]
section WR_DC
variable {g : Bool} {y : xY} {d pc : Nat} {L : List (Option Value)} {zst : List Value} {bc bs : Nat} {Q : List xM → Option Value → Prop} {dz ez : Int} {dk dl dg ek el eg : Int → Int} 
theorem gf_DC_0_0 {idx : Nat} (hf : x_fs y.1.cls idx 1 0) (hd : decode y.2.1 pc = .ok (.getfield idx, 3)) (kk : SJ g y d (pc + 3) L (.int (ii dz) :: zst) (W_DC dz ez dk dl dg ek el eg) bc bs Q) : SJ g y d pc L (.ref 0 :: zst) (W_DC dz ez dk dl dg ek el eg) bc bs Q := j_getf hd hf rfl rfl kk
theorem pf_DC_0_0 {idx : Nat} {v : Int} (hf : x_fs y.1.cls idx 1 0) (hd : decode y.2.1 pc = .ok (.putfield idx, 3)) (kk : SJ g y d (pc + 3) L zst (W_DC v ez dk dl dg ek el eg) bc bs Q) : SJ g y d pc L (.int (ii v) :: .ref 0 :: zst) (W_DC dz ez dk dl dg ek el eg) bc bs Q := j_putf (ci := 1) (k := 0) hd hf ⟨_, rfl, rfl, rfl⟩ rfl (Nat.le_of_ble_eq_true rfl) x_okI kk
theorem gf_DC_0_1 {idx : Nat} (hf : x_fs y.1.cls idx 1 1) (hd : decode y.2.1 pc = .ok (.getfield idx, 3)) (kk : SJ g y d (pc + 3) L (.ref 8 :: zst) (W_DC dz ez dk dl dg ek el eg) bc bs Q) : SJ g y d pc L (.ref 0 :: zst) (W_DC dz ez dk dl dg ek el eg) bc bs Q := j_getf hd hf rfl rfl kk
theorem gf_DC_0_2 {idx : Nat} (hf : x_fs y.1.cls idx 1 2) (hd : decode y.2.1 pc = .ok (.getfield idx, 3)) (kk : SJ g y d (pc + 3) L (.ref 9 :: zst) (W_DC dz ez dk dl dg ek el eg) bc bs Q) : SJ g y d pc L (.ref 0 :: zst) (W_DC dz ez dk dl dg ek el eg) bc bs Q := j_getf hd hf rfl rfl kk
theorem gf_DC_0_3 {idx : Nat} (hf : x_fs y.1.cls idx 1 3) (hd : decode y.2.1 pc = .ok (.getfield idx, 3)) (kk : SJ g y d (pc + 3) L (.ref 1 :: zst) (W_DC dz ez dk dl dg ek el eg) bc bs Q) : SJ g y d pc L (.ref 0 :: zst) (W_DC dz ez dk dl dg ek el eg) bc bs Q := j_getf hd hf rfl rfl kk
theorem gf_DC_0_4 {idx : Nat} (hf : x_fs y.1.cls idx 1 4) (hd : decode y.2.1 pc = .ok (.getfield idx, 3)) (kk : SJ g y d (pc + 3) L (.ref 2 :: zst) (W_DC dz ez dk dl dg ek el eg) bc bs Q) : SJ g y d pc L (.ref 0 :: zst) (W_DC dz ez dk dl dg ek el eg) bc bs Q := j_getf hd hf rfl rfl kk
theorem gf_DC_0_5 {idx : Nat} (hf : x_fs y.1.cls idx 1 5) (hd : decode y.2.1 pc = .ok (.getfield idx, 3)) (kk : SJ g y d (pc + 3) L (.ref 3 :: zst) (W_DC dz ez dk dl dg ek el eg) bc bs Q) : SJ g y d pc L (.ref 0 :: zst) (W_DC dz ez dk dl dg ek el eg) bc bs Q := j_getf hd hf rfl rfl kk
theorem al_DC_1 {a : Int} (hd : decode y.2.1 pc = .ok (.iaload, 1)) (h0 : 0 ≤ a) (h1 : a < 16) (kk : SJ g y d (pc + 1) L (.int (ii (dk a)) :: zst) (W_DC dz ez dk dl dg ek el eg) bc bs Q) : SJ g y d pc L (.int (ii a) :: .ref 1 :: zst) (W_DC dz ez dk dl dg ek el eg) bc bs Q := z_iald hd rfl h0 h1 ⟨by omega, by omega⟩ kk
theorem as_DC_1 {a v : Int} (hd : decode y.2.1 pc = .ok (.iastore, 1)) (h0 : 0 ≤ a) (h1 : a < 16) (kk : SJ g y d (pc + 1) L zst (W_DC dz ez (up dk a v) dl dg ek el eg) bc bs Q) : SJ g y d pc L (.int (ii v) :: .int (ii a) :: .ref 1 :: zst) (W_DC dz ez dk dl dg ek el eg) bc bs Q := z_iast hd rfl h0 h1 ⟨by omega, by omega⟩ kk
theorem al_DC_2 {a : Int} (hd : decode y.2.1 pc = .ok (.iaload, 1)) (h0 : 0 ≤ a) (h1 : a < 16) (kk : SJ g y d (pc + 1) L (.int (ii (dl a)) :: zst) (W_DC dz ez dk dl dg ek el eg) bc bs Q) : SJ g y d pc L (.int (ii a) :: .ref 2 :: zst) (W_DC dz ez dk dl dg ek el eg) bc bs Q := z_iald hd rfl h0 h1 ⟨by omega, by omega⟩ kk
theorem as_DC_2 {a v : Int} (hd : decode y.2.1 pc = .ok (.iastore, 1)) (h0 : 0 ≤ a) (h1 : a < 16) (kk : SJ g y d (pc + 1) L zst (W_DC dz ez dk (up dl a v) dg ek el eg) bc bs Q) : SJ g y d pc L (.int (ii v) :: .int (ii a) :: .ref 2 :: zst) (W_DC dz ez dk dl dg ek el eg) bc bs Q := z_iast hd rfl h0 h1 ⟨by omega, by omega⟩ kk
theorem al_DC_3 {a : Int} (hd : decode y.2.1 pc = .ok (.iaload, 1)) (h0 : 0 ≤ a) (h1 : a < 16) (kk : SJ g y d (pc + 1) L (.int (ii (dg a)) :: zst) (W_DC dz ez dk dl dg ek el eg) bc bs Q) : SJ g y d pc L (.int (ii a) :: .ref 3 :: zst) (W_DC dz ez dk dl dg ek el eg) bc bs Q := z_iald hd rfl h0 h1 ⟨by omega, by omega⟩ kk
theorem as_DC_3 {a v : Int} (hd : decode y.2.1 pc = .ok (.iastore, 1)) (h0 : 0 ≤ a) (h1 : a < 16) (kk : SJ g y d (pc + 1) L zst (W_DC dz ez dk dl (up dg a v) ek el eg) bc bs Q) : SJ g y d pc L (.int (ii v) :: .int (ii a) :: .ref 3 :: zst) (W_DC dz ez dk dl dg ek el eg) bc bs Q := z_iast hd rfl h0 h1 ⟨by omega, by omega⟩ kk
theorem gf_DC_4_0 {idx : Nat} (hf : x_fs y.1.cls idx 1 0) (hd : decode y.2.1 pc = .ok (.getfield idx, 3)) (kk : SJ g y d (pc + 3) L (.int (ii ez) :: zst) (W_DC dz ez dk dl dg ek el eg) bc bs Q) : SJ g y d pc L (.ref 4 :: zst) (W_DC dz ez dk dl dg ek el eg) bc bs Q := j_getf hd hf rfl rfl kk
theorem pf_DC_4_0 {idx : Nat} {v : Int} (hf : x_fs y.1.cls idx 1 0) (hd : decode y.2.1 pc = .ok (.putfield idx, 3)) (kk : SJ g y d (pc + 3) L zst (W_DC dz v dk dl dg ek el eg) bc bs Q) : SJ g y d pc L (.int (ii v) :: .ref 4 :: zst) (W_DC dz ez dk dl dg ek el eg) bc bs Q := j_putf (ci := 1) (k := 0) hd hf ⟨_, rfl, rfl, rfl⟩ rfl (Nat.le_of_ble_eq_true rfl) x_okI kk
theorem gf_DC_4_1 {idx : Nat} (hf : x_fs y.1.cls idx 1 1) (hd : decode y.2.1 pc = .ok (.getfield idx, 3)) (kk : SJ g y d (pc + 3) L (.ref 8 :: zst) (W_DC dz ez dk dl dg ek el eg) bc bs Q) : SJ g y d pc L (.ref 4 :: zst) (W_DC dz ez dk dl dg ek el eg) bc bs Q := j_getf hd hf rfl rfl kk
theorem gf_DC_4_2 {idx : Nat} (hf : x_fs y.1.cls idx 1 2) (hd : decode y.2.1 pc = .ok (.getfield idx, 3)) (kk : SJ g y d (pc + 3) L (.ref 10 :: zst) (W_DC dz ez dk dl dg ek el eg) bc bs Q) : SJ g y d pc L (.ref 4 :: zst) (W_DC dz ez dk dl dg ek el eg) bc bs Q := j_getf hd hf rfl rfl kk
theorem gf_DC_4_3 {idx : Nat} (hf : x_fs y.1.cls idx 1 3) (hd : decode y.2.1 pc = .ok (.getfield idx, 3)) (kk : SJ g y d (pc + 3) L (.ref 5 :: zst) (W_DC dz ez dk dl dg ek el eg) bc bs Q) : SJ g y d pc L (.ref 4 :: zst) (W_DC dz ez dk dl dg ek el eg) bc bs Q := j_getf hd hf rfl rfl kk
theorem gf_DC_4_4 {idx : Nat} (hf : x_fs y.1.cls idx 1 4) (hd : decode y.2.1 pc = .ok (.getfield idx, 3)) (kk : SJ g y d (pc + 3) L (.ref 6 :: zst) (W_DC dz ez dk dl dg ek el eg) bc bs Q) : SJ g y d pc L (.ref 4 :: zst) (W_DC dz ez dk dl dg ek el eg) bc bs Q := j_getf hd hf rfl rfl kk
theorem gf_DC_4_5 {idx : Nat} (hf : x_fs y.1.cls idx 1 5) (hd : decode y.2.1 pc = .ok (.getfield idx, 3)) (kk : SJ g y d (pc + 3) L (.ref 7 :: zst) (W_DC dz ez dk dl dg ek el eg) bc bs Q) : SJ g y d pc L (.ref 4 :: zst) (W_DC dz ez dk dl dg ek el eg) bc bs Q := j_getf hd hf rfl rfl kk
theorem al_DC_5 {a : Int} (hd : decode y.2.1 pc = .ok (.iaload, 1)) (h0 : 0 ≤ a) (h1 : a < 16) (kk : SJ g y d (pc + 1) L (.int (ii (ek a)) :: zst) (W_DC dz ez dk dl dg ek el eg) bc bs Q) : SJ g y d pc L (.int (ii a) :: .ref 5 :: zst) (W_DC dz ez dk dl dg ek el eg) bc bs Q := z_iald hd rfl h0 h1 ⟨by omega, by omega⟩ kk
theorem as_DC_5 {a v : Int} (hd : decode y.2.1 pc = .ok (.iastore, 1)) (h0 : 0 ≤ a) (h1 : a < 16) (kk : SJ g y d (pc + 1) L zst (W_DC dz ez dk dl dg (up ek a v) el eg) bc bs Q) : SJ g y d pc L (.int (ii v) :: .int (ii a) :: .ref 5 :: zst) (W_DC dz ez dk dl dg ek el eg) bc bs Q := z_iast hd rfl h0 h1 ⟨by omega, by omega⟩ kk
theorem al_DC_6 {a : Int} (hd : decode y.2.1 pc = .ok (.iaload, 1)) (h0 : 0 ≤ a) (h1 : a < 16) (kk : SJ g y d (pc + 1) L (.int (ii (el a)) :: zst) (W_DC dz ez dk dl dg ek el eg) bc bs Q) : SJ g y d pc L (.int (ii a) :: .ref 6 :: zst) (W_DC dz ez dk dl dg ek el eg) bc bs Q := z_iald hd rfl h0 h1 ⟨by omega, by omega⟩ kk
theorem as_DC_6 {a v : Int} (hd : decode y.2.1 pc = .ok (.iastore, 1)) (h0 : 0 ≤ a) (h1 : a < 16) (kk : SJ g y d (pc + 1) L zst (W_DC dz ez dk dl dg ek (up el a v) eg) bc bs Q) : SJ g y d pc L (.int (ii v) :: .int (ii a) :: .ref 6 :: zst) (W_DC dz ez dk dl dg ek el eg) bc bs Q := z_iast hd rfl h0 h1 ⟨by omega, by omega⟩ kk
theorem al_DC_7 {a : Int} (hd : decode y.2.1 pc = .ok (.iaload, 1)) (h0 : 0 ≤ a) (h1 : a < 16) (kk : SJ g y d (pc + 1) L (.int (ii (eg a)) :: zst) (W_DC dz ez dk dl dg ek el eg) bc bs Q) : SJ g y d pc L (.int (ii a) :: .ref 7 :: zst) (W_DC dz ez dk dl dg ek el eg) bc bs Q := z_iald hd rfl h0 h1 ⟨by omega, by omega⟩ kk
theorem as_DC_7 {a v : Int} (hd : decode y.2.1 pc = .ok (.iastore, 1)) (h0 : 0 ≤ a) (h1 : a < 16) (kk : SJ g y d (pc + 1) L zst (W_DC dz ez dk dl dg ek el (up eg a v)) bc bs Q) : SJ g y d pc L (.int (ii v) :: .int (ii a) :: .ref 7 :: zst) (W_DC dz ez dk dl dg ek el eg) bc bs Q := z_iast hd rfl h0 h1 ⟨by omega, by omega⟩ kk
end WR_DC
def W_SH (lc : Int) (fo : Int) : List xM := [.inr (7, [.ref 1, .ref 2, .ref 3, .int (ii lc), .int (ii fo)])]
section WR_SH
variable {g : Bool} {y : xY} {d pc : Nat} {L : List (Option Value)} {zst : List Value} {bc bs : Nat} {Q : List xM → Option Value → Prop} {lc fo : Int} 
theorem gf_SH_0_0 {idx : Nat} (hf : x_fs y.1.cls idx 7 0) (hd : decode y.2.1 pc = .ok (.getfield idx, 3)) (kk : SJ g y d (pc + 3) L (.ref 1 :: zst) (W_SH lc fo) bc bs Q) : SJ g y d pc L (.ref 0 :: zst) (W_SH lc fo) bc bs Q := j_getf hd hf rfl rfl kk
theorem gf_SH_0_1 {idx : Nat} (hf : x_fs y.1.cls idx 7 1) (hd : decode y.2.1 pc = .ok (.getfield idx, 3)) (kk : SJ g y d (pc + 3) L (.ref 2 :: zst) (W_SH lc fo) bc bs Q) : SJ g y d pc L (.ref 0 :: zst) (W_SH lc fo) bc bs Q := j_getf hd hf rfl rfl kk
theorem gf_SH_0_2 {idx : Nat} (hf : x_fs y.1.cls idx 7 2) (hd : decode y.2.1 pc = .ok (.getfield idx, 3)) (kk : SJ g y d (pc + 3) L (.ref 3 :: zst) (W_SH lc fo) bc bs Q) : SJ g y d pc L (.ref 0 :: zst) (W_SH lc fo) bc bs Q := j_getf hd hf rfl rfl kk
theorem gf_SH_0_3 {idx : Nat} (hf : x_fs y.1.cls idx 7 3) (hd : decode y.2.1 pc = .ok (.getfield idx, 3)) (kk : SJ g y d (pc + 3) L (.int (ii lc) :: zst) (W_SH lc fo) bc bs Q) : SJ g y d pc L (.ref 0 :: zst) (W_SH lc fo) bc bs Q := j_getf hd hf rfl rfl kk
theorem pf_SH_0_3 {idx : Nat} {v : Int} (hf : x_fs y.1.cls idx 7 3) (hd : decode y.2.1 pc = .ok (.putfield idx, 3)) (kk : SJ g y d (pc + 3) L zst (W_SH v fo) bc bs Q) : SJ g y d pc L (.int (ii v) :: .ref 0 :: zst) (W_SH lc fo) bc bs Q := j_putf (ci := 7) (k := 3) hd hf ⟨_, rfl, rfl, rfl⟩ rfl (Nat.le_of_ble_eq_true rfl) x_okI kk
theorem gf_SH_0_4 {idx : Nat} (hf : x_fs y.1.cls idx 7 4) (hd : decode y.2.1 pc = .ok (.getfield idx, 3)) (kk : SJ g y d (pc + 3) L (.int (ii fo) :: zst) (W_SH lc fo) bc bs Q) : SJ g y d pc L (.ref 0 :: zst) (W_SH lc fo) bc bs Q := j_getf hd hf rfl rfl kk
theorem pf_SH_0_4 {idx : Nat} {v : Int} (hf : x_fs y.1.cls idx 7 4) (hd : decode y.2.1 pc = .ok (.putfield idx, 3)) (kk : SJ g y d (pc + 3) L zst (W_SH lc v) bc bs Q) : SJ g y d pc L (.int (ii v) :: .ref 0 :: zst) (W_SH lc fo) bc bs Q := j_putf (ci := 7) (k := 4) hd hf ⟨_, rfl, rfl, rfl⟩ rfl (Nat.le_of_ble_eq_true rfl) x_okI kk
end WR_SH
theorem SC_law {lc fo rn rl rp qc qf qn ql qp : Int} {rs rm rd ro tm qs qm qd qo qt : Int → Int} {lx mx : Nat → Option Nat} {ts : List TD} (hmx : LXV mx ts) {i : Nat} (hi : i < 6) : ∀ k, lwR 16 mx i = some k → ∃ fs, (W_SC lc fo rn rl rp qc qf qn ql qp rs rm rd ro tm qs qm qd qo qt lx mx ts)[k]? = some (.inr (10, fs)) := by
  intro k hk
  unfold lwR at hk
  cases hm : mx i with
  | none => rw [hm] at hk; cases hk
  | some j =>
    rw [hm] at hk
    cases hk
    exact TX_law rfl (hmx i j hi hm)
theorem SC_set {lc fo rn rl rp qc qf qn ql qp : Int} {rs rm rd ro tm qs qm qd qo qt : Int → Int} {lx mx : Nat → Option Nat} {ts : List TD} {k : Nat} : (W_SC lc fo rn rl rp qc qf qn ql qp rs rm rd ro tm qs qm qd qo qt lx mx ts).set 14 (.inl (5, 6, .inr (.inr (.inr (.inr (va_up (lwR 16 lx) k (lwR 16 mx k))))))) = (W_SC lc fo rn rl rp qc qf qn ql qp rs rm rd ro tm qs qm qd qo qt (va_up lx k (mx k)) mx ts) := by
  rw [lwR_up]
  rfl
theorem E_SC_R2 {g : Bool} {y : xY} {d : Nat} {args as2 : List Value} {Q : List xM → Option Value → Prop} {lc fo rn rl rp qc qf qn ql qp : Int} {rs rm rd ro tm qs qm qd qo qt : Int → Int} {lx mx : Nat → Option Nat} {ts : List TD} (h : ∀ Q2 : List xM → Option Value → Prop, (∀ (rn_ : Int) (rl_ : Int) (rp_ : Int) (qn_ : Int) (ql_ : Int) (qp_ : Int) (rs_ : Int → Int) (rm_ : Int → Int) (rd_ : Int → Int) (ro_ : Int → Int) (qs_ : Int → Int) (qm_ : Int → Int) (qd_ : Int → Int) (qo_ : Int → Int) (r : Option Value), r.map (r_v (sgl [1, 2, 3, 4, 5, 8, 9, 10, 11, 12] 13)) = r → Q (W_SC lc fo rn_ rl_ rp_ qc qf qn_ ql_ qp_ rs_ rm_ rd_ ro_ tm qs_ qm_ qd_ qo_ qt lx mx ts) r → Q2 (W_R2 rn_ rl_ rp_ qn_ ql_ qp_ rs_ rm_ rd_ ro_ qs_ qm_ qd_ qo_) r) → CT false y d args (W_R2 rn rl rp qn ql qp rs rm rd ro qs qm qd qo) 0 0 Q2) (ha2 : as2 = args.map (r_v (sgl [1, 2, 3, 4, 5, 8, 9, 10, 11, 12] 13))) : CT g y d as2 (W_SC lc fo rn rl rp qc qf qn ql qp rs rm rd ro tm qs qm qd qo qt lx mx ts) 0 0 Q :=
  CT.sub (sgl [1, 2, 3, 4, 5, 8, 9, 10, 11, 12] 13) (sgl_inj (by decide) (by decide)) (Emb.hs (Emb.cons rfl (Emb.cons rfl (Emb.cons rfl (Emb.cons rfl (Emb.cons rfl (Emb.cons rfl (Emb.cons rfl (Emb.cons rfl (Emb.cons rfl (Emb.cons rfl (Emb.nil)))))))))))) ha2 (h _ (fun _ _ _ _ _ _ _ _ _ _ _ _ _ _ r hr hq => ⟨rfl, by rw [hr]; exact hq⟩))
theorem lp_scp {g : Bool} {d : Nat} {Q : List xM → Option Value → Prop} {lc fo rn rl rp qc qf qn ql qp : Int} {rs rm rd ro tm qs qm qd qo qt : Int → Int} {mx : Nat → Option Nat} {ts : List TD} (hmx : LXV mx ts) (hQ : ∀ lz : Nat → Option Nat, (∀ f, f < 6 → lz f = mx f) → Q (W_SC qc qf rn rl rp qc qf qn ql qp rs rm rd ro tm qs qm qd qo qt lz mx ts) none)  : ∀ (nn : Nat) (q : Int) (lx : Nat → Option Nat), (6 - q).toNat = nn → 0 ≤ q → q ≤ 6 → (∀ f : Nat, (f : Int) < q → lx f = mx f) → SJ g m_Sta_copyFrom (d + 2) 27 [some (.ref 0), some (.ref 7), some (.int (ii q))] [] (W_SC lc fo rn rl rp qc qf qn ql qp rs rm rd ro tm qs qm qd qo qt lx mx ts) 0 0 Q := by
  intro nn
  induction nn using Nat.strongRecOn with
  | ind nn ih =>
  intro q lx hn q0 q1 hq
  refine j_iload_n d_Sta_copyFrom_27 rfl ?_
  refine z_bipush d_Sta_copyFrom_28 (by decide) ?_
  refine z_icmp_ge (t := 51) d_Sta_copyFrom_30 (by decide) (by first | omega | exact hw _ | exact hx _ _ | assumption) (by first | omega | exact hw _ | exact hx _ _ | assumption) (fun h30 => ?_) (fun h30 => ?_)
  · refine j_aload_n d_Sta_copyFrom_51 rfl ?_
    refine j_aload_n d_Sta_copyFrom_52 rfl ?_
    refine gf_SC_7_3 f_Sta_28 d_Sta_copyFrom_53 ?_
    refine pf_SC_0_3 f_Sta_28 d_Sta_copyFrom_56 ?_
    refine j_aload_n d_Sta_copyFrom_59 rfl ?_
    refine j_aload_n d_Sta_copyFrom_60 rfl ?_
    refine gf_SC_7_4 f_Sta_32 d_Sta_copyFrom_61 ?_
    refine pf_SC_0_4 f_Sta_32 d_Sta_copyFrom_64 ?_
    exact j_return rfl d_Sta_copyFrom_67 (hQ lx (fun f hf => hq f (by omega)))
  · refine j_aload_n d_Sta_copyFrom_33 rfl ?_
    refine gf_SC_0_2 f_Sta_24 d_Sta_copyFrom_34 ?_
    refine j_iload_n d_Sta_copyFrom_37 rfl ?_
    refine j_aload_n d_Sta_copyFrom_38 rfl ?_
    refine gf_SC_7_2 f_Sta_24 d_Sta_copyFrom_39 ?_
    refine j_iload_n d_Sta_copyFrom_42 rfl ?_
    refine z_aald d_Sta_copyFrom_43 rfl (Or.inl rfl) (by omega) (by omega) (by omega) ?_
    refine z_aast (Or.inl ⟨rfl, rfl⟩) d_Sta_copyFrom_44 rfl (SC_law hmx (by omega)) (by omega) (by omega) (by omega) ?_
    rw [SC_set]
    refine z_iinc d_Sta_copyFrom_45 rfl (by decide) ?_
    show SJ _ _ _ _ [_, _, _] _ _ _ _ _
    refine j_goto (t := 27) d_Sta_copyFrom_48 (by decide) ?_
    refine ih _ (by omega) (q + 1) _ rfl (by omega) (by omega) (fun f hf => ?_)
    unfold va_up
    by_cases e : f = q.toNat
    · rw [if_pos e, e]
    · rw [if_neg e]; exact hq f (by omega)
theorem t_Sta_copyFrom {g : Bool} {d : Nat} {Q : List xM → Option Value → Prop} {lc fo rn rl rp qc qf qn ql qp : Int} {rs rm rd ro tm qs qm qd qo qt : Int → Int} {lx mx : Nat → Option Nat} {ts : List TD} (hmx : LXV mx ts) (hQ : ∀ lz : Nat → Option Nat, (∀ f, f < 6 → lz f = mx f) → Q (W_SC qc qf qn rl 0 qc qf qn ql qp (cpy qs rs 0 0 20) rm rd ro (cpy qt tm 0 0 3) qs qm qd qo qt lz mx ts) none)  : CT g m_Sta_copyFrom (d + 2) [.ref 0, .ref 7] (W_SC lc fo rn rl rp qc qf qn ql qp rs rm rd ro tm qs qm qd qo qt lx mx ts) 0 0 Q := by
  refine CT.of (by decide) (Nat.le_of_ble_eq_true rfl) ?_
  show SJ _ _ _ _ [some (.ref 0), some (.ref 7), none] [] _ _ _ _
  refine j_aload_n d_Sta_copyFrom_0 rfl ?_
  refine gf_SC_0_0 f_Sta_12 d_Sta_copyFrom_1 ?_
  refine j_aload_n d_Sta_copyFrom_4 rfl ?_
  refine gf_SC_7_0 f_Sta_12 d_Sta_copyFrom_5 ?_
  refine v_call1 d_Sta_copyFrom_8 c_Sta_44 rfl ⟨_, rfl, rfl⟩ (Nat.le_of_ble_eq_true rfl) (E_SC_R2 (fun Q2 kz => t_Row_copyFrom (kz _ _ _ _ _ _ _ _ _ _ _ _ _ _ _ rfl ?_)) rfl)
  refine j_aload_n d_Sta_copyFrom_11 rfl ?_
  refine gf_SC_7_1 f_Sta_18 d_Sta_copyFrom_12 ?_
  refine z_iconst d_Sta_copyFrom_15 ?_
  refine j_aload_n d_Sta_copyFrom_16 rfl ?_
  refine gf_SC_0_1 f_Sta_18 d_Sta_copyFrom_17 ?_
  refine z_iconst d_Sta_copyFrom_20 ?_
  refine z_iconst d_Sta_copyFrom_21 ?_
  refine z_copyI d_Sta_copyFrom_22 ac_Sta_38 rfl rfl (by omega) (by omega) (by omega) (by omega) (by omega) (by omega) (by omega) (by omega) (Nat.le_of_ble_eq_true rfl) ?_
  show SJ _ _ _ _ _ _ (W_SC lc fo qn rl 0 qc qf qn ql qp (cpy qs rs 0 0 20) rm rd ro (cpy qt tm 0 0 3) qs qm qd qo qt lx mx ts) _ _ _
  refine z_iconst d_Sta_copyFrom_25 ?_
  refine j_istore_n d_Sta_copyFrom_26 (by decide) ?_
  show SJ _ _ _ _ [_, _, _] _ _ _ _ _
  exact lp_scp hmx hQ _ 0 _ rfl (by omega) (by omega) (fun f hf => by omega)
theorem t_Dee_copyFrom {g : Bool} {d : Nat} {Q : List xM → Option Value → Prop} {dz ez : Int} {dk dl dg ek el eg : Int → Int} (hQ : Q (W_DC ez ez (cpy ek dk 0 0 16) (cpy el dl 0 0 16) (cpy eg dg 0 0 16) ek el eg) none) : CT g m_Dee_copyFrom (d + 1) [.ref 0, .ref 4] (W_DC dz ez dk dl dg ek el eg) 0 0 Q := by
  refine CT.of (by decide) (Nat.le_of_ble_eq_true rfl) ?_
  show SJ _ _ _ _ [some (.ref 0), some (.ref 4)] [] _ _ _ _
  refine j_aload_n d_Dee_copyFrom_0 rfl ?_
  refine j_aload_n d_Dee_copyFrom_1 rfl ?_
  refine gf_DC_4_0 f_Dee_9 d_Dee_copyFrom_2 ?_
  refine pf_DC_0_0 f_Dee_9 d_Dee_copyFrom_5 ?_
  refine j_aload_n d_Dee_copyFrom_8 rfl ?_
  refine gf_DC_4_3 f_Dee_15 d_Dee_copyFrom_9 ?_
  refine z_iconst d_Dee_copyFrom_12 ?_
  refine j_aload_n d_Dee_copyFrom_13 rfl ?_
  refine gf_DC_0_3 f_Dee_15 d_Dee_copyFrom_14 ?_
  refine z_iconst d_Dee_copyFrom_17 ?_
  refine z_bipush d_Dee_copyFrom_18 (by decide) ?_
  refine z_copyI d_Dee_copyFrom_20 ac_Dee_33 rfl rfl (by omega) (by omega) (by omega) (by omega) (by omega) (by omega) (by omega) (by omega) (Nat.le_of_ble_eq_true rfl) ?_
  show SJ _ _ _ _ _ _ (W_DC ez ez (cpy ek dk 0 0 16) dl dg ek el eg) _ _ _
  refine j_aload_n d_Dee_copyFrom_23 rfl ?_
  refine gf_DC_4_4 f_Dee_19 d_Dee_copyFrom_24 ?_
  refine z_iconst d_Dee_copyFrom_27 ?_
  refine j_aload_n d_Dee_copyFrom_28 rfl ?_
  refine gf_DC_0_4 f_Dee_19 d_Dee_copyFrom_29 ?_
  refine z_iconst d_Dee_copyFrom_32 ?_
  refine z_bipush d_Dee_copyFrom_33 (by decide) ?_
  refine z_copyI d_Dee_copyFrom_35 ac_Dee_33 rfl rfl (by omega) (by omega) (by omega) (by omega) (by omega) (by omega) (by omega) (by omega) (Nat.le_of_ble_eq_true rfl) ?_
  show SJ _ _ _ _ _ _ (W_DC ez ez (cpy ek dk 0 0 16) (cpy el dl 0 0 16) dg ek el eg) _ _ _
  refine j_aload_n d_Dee_copyFrom_38 rfl ?_
  refine gf_DC_4_5 f_Dee_22 d_Dee_copyFrom_39 ?_
  refine z_iconst d_Dee_copyFrom_42 ?_
  refine j_aload_n d_Dee_copyFrom_43 rfl ?_
  refine gf_DC_0_5 f_Dee_22 d_Dee_copyFrom_44 ?_
  refine z_iconst d_Dee_copyFrom_47 ?_
  refine z_bipush d_Dee_copyFrom_48 (by decide) ?_
  refine z_copyI d_Dee_copyFrom_50 ac_Dee_33 rfl rfl (by omega) (by omega) (by omega) (by omega) (by omega) (by omega) (by omega) (by omega) (Nat.le_of_ble_eq_true rfl) ?_
  show SJ _ _ _ _ _ _ (W_DC ez ez (cpy ek dk 0 0 16) (cpy el dl 0 0 16) (cpy eg dg 0 0 16) ek el eg) _ _ _
  exact j_return rfl d_Dee_copyFrom_53 hQ
theorem t_Sta_hasLaw {g : Bool} {d : Nat} {Q : List xM → Option Value → Prop} {lc fo : Int} {n : Int} (rn_ : R32 n) (l0 : 0 ≤ lc) (l1 : lc ≤ 6) (ht : (-1 ≤ n ∧ n < lc) → Q (W_SH lc fo) (some (.int (ii 1)))) (hf : ¬ ((-1 ≤ n ∧ n < lc)) → Q (W_SH lc fo) (some (.int (ii 0)))) : CT g m_Sta_hasLaw d [.ref 0, .int (ii n)] (W_SH lc fo) 0 0 Q := by
  refine CT.of (by decide) (Nat.le_of_ble_eq_true rfl) ?_
  show SJ _ _ _ _ [some (.ref 0), some (.int (ii n))] [] _ _ _ _
  refine j_iload_n d_Sta_hasLaw_0 rfl ?_
  refine z_iconst d_Sta_hasLaw_1 ?_
  refine z_icmp_lt (t := 17) d_Sta_hasLaw_2 (by decide) (by first | omega | exact hw _ | exact hx _ _ | assumption) (by first | omega | exact hw _ | exact hx _ _ | assumption) (fun h2 => ?_) (fun h2 => ?_)
  · refine z_iconst d_Sta_hasLaw_17 ?_
    exact z_zreturn rfl (Or.inl rfl) d_Sta_hasLaw_18 (hf (by first | omega | simp_all))
  · refine j_iload_n d_Sta_hasLaw_5 rfl ?_
    refine j_aload_n d_Sta_hasLaw_6 rfl ?_
    refine gf_SH_0_3 f_Sta_28 d_Sta_hasLaw_7 ?_
    refine z_icmp_ge (t := 17) d_Sta_hasLaw_10 (by decide) (by first | omega | exact hw _ | exact hx _ _ | assumption) (by first | omega | exact hw _ | exact hx _ _ | assumption) (fun h10 => ?_) (fun h10 => ?_)
    · refine z_iconst d_Sta_hasLaw_17 ?_
      exact z_zreturn rfl (Or.inl rfl) d_Sta_hasLaw_18 (hf (by first | omega | simp_all))
    · refine z_iconst d_Sta_hasLaw_13 ?_
      refine j_goto (t := 18) d_Sta_hasLaw_14 (by decide) ?_
      exact z_zreturn rfl (Or.inr rfl) d_Sta_hasLaw_18 (ht (by first | omega | simp_all))
theorem bv_sh (A : BitVec 32) (s : Nat) (hs : s ≤ 24) : (A >>> s) &&& 255#32 = ((A.sshiftRight s).setWidth 8).setWidth 32 := by
  apply BitVec.eq_of_getLsbD_eq
  intro i hi
  have h255 : ∀ j, j < 32 → (255#32).getLsbD j = decide (j < 8) := by decide
  rw [BitVec.getLsbD_and, BitVec.getLsbD_ushiftRight, BitVec.getLsbD_setWidth, BitVec.getLsbD_setWidth, BitVec.getLsbD_sshiftRight, h255 i hi]
  by_cases c : i < 8
  · have c2 : s + i < 32 := by omega
    simp [c, hi, c2]
  · simp [c]
def adB (n z : Int) : Nat → (Int → Int) → (Int → Int)
  | 0, t => t
  | k + 1, t => up (adB n z k t) (z + k) (ub (bt n k))
theorem ub_nat (b : BitVec 8) : ub b.toInt = (b.toNat : Int) := by
  have h := b.isLt
  unfold ub
  rw [BitVec.toInt_eq_toNat_cond]
  split <;> split <;> omega
theorem ii_nat8 (b : BitVec 8) : (ii (ub b.toInt)).toBitVec = b.setWidth 32 := by
  rw [ub_nat]
  show BitVec.ofInt 32 _ = _
  rw [BitVec.ofInt_natCast, BitVec.ofNat_toNat]
theorem ub_bt {n k : Int} (h0 : 0 ≤ k) (h1 : k < 4) : ((ii n).toUInt32 >>> ((ii (24 - 8 * k)).toUInt32 &&& Int32.toUInt32 31)).toInt32 &&& ii 255 = ii (ub (bt n k)) := by
  unfold bt
  generalize ii n = A
  have hk : k = 0 ∨ k = 1 ∨ k = 2 ∨ k = 3 := by omega
  rcases hk with rfl | rfl | rfl | rfl
  · apply Int32.toBitVec_inj.1
    show _ = (ii (ub (BitVec.toInt ((A.toBitVec.sshiftRight 24).signExtend 8)))).toBitVec
    rw [ii_nat8, BitVec.signExtend_eq_setWidth_of_le _ (by decide)]
    exact bv_sh A.toBitVec 24 (by decide)
  · apply Int32.toBitVec_inj.1
    show _ = (ii (ub (BitVec.toInt ((A.toBitVec.sshiftRight 16).signExtend 8)))).toBitVec
    rw [ii_nat8, BitVec.signExtend_eq_setWidth_of_le _ (by decide)]
    exact bv_sh A.toBitVec 16 (by decide)
  · apply Int32.toBitVec_inj.1
    show _ = (ii (ub (BitVec.toInt ((A.toBitVec.sshiftRight 8).signExtend 8)))).toBitVec
    rw [ii_nat8, BitVec.signExtend_eq_setWidth_of_le _ (by decide)]
    exact bv_sh A.toBitVec 8 (by decide)
  · apply Int32.toBitVec_inj.1
    show _ = (ii (ub (BitVec.toInt ((A.toBitVec.sshiftRight 0).signExtend 8)))).toBitVec
    rw [ii_nat8, BitVec.signExtend_eq_setWidth_of_le _ (by decide)]
    exact bv_sh A.toBitVec 0 (by decide)
theorem lp_adn {g : Bool} {d : Nat} {Q : List xM → Option Value → Prop} {pn : Int} {tk ps pv pw : Int → Int} {n z : Int} (r1 : R32 n) (z0_ : 0 ≤ z) (z1_ : z ≤ 396) {bz : Int → Int} (hQ : Q (W_TP (z + 4) pn (adB n z 4 bz) tk ps pv pw) none)  : ∀ (nn : Nat) (k : Int), (4 - k).toNat = nn → 0 ≤ k → k ≤ 4 → SJ g m_Tap_addNumber d 3 [some (.ref 0), some (.int (ii n)), some (.int (ii ((24 - 8 * k))))] [] (W_TP (z + k) pn (adB n z k.toNat bz) tk ps pv pw) 0 0 Q := by
  intro nn
  induction nn using Nat.strongRecOn with
  | ind nn ih =>
  intro k hn k0 k1
  refine j_iload_n d_Tap_addNumber_3 rfl ?_
  refine z_if_lt (t := 49) d_Tap_addNumber_4 (by decide) (by first | omega | exact hw _ | exact hx _ _ | assumption) (fun h4 => ?_) (fun h4 => ?_)
  · have e : k = 4 := by omega
    subst e
    exact j_return rfl d_Tap_addNumber_49 hQ
  · refine j_aload_n d_Tap_addNumber_7 rfl ?_
    refine gf_TP_0_1 f_Tap_15 d_Tap_addNumber_8 ?_
    refine z_sipush d_Tap_addNumber_11 (by decide) ?_
    refine z_icmp_ge (t := 49) d_Tap_addNumber_14 (by decide) (by first | omega | exact hw _ | exact hx _ _ | assumption) (by first | omega | exact hw _ | exact hx _ _ | assumption) (fun h14 => ?_) (fun h14 => ?_)
    · have e : k = 4 := by omega
      subst e
      exact j_return rfl d_Tap_addNumber_49 hQ
    · refine j_aload_n d_Tap_addNumber_17 rfl ?_
      refine gf_TP_0_0 f_Tap_9 d_Tap_addNumber_18 ?_
      refine j_aload_n d_Tap_addNumber_21 rfl ?_
      refine gf_TP_0_1 f_Tap_15 d_Tap_addNumber_22 ?_
      refine j_iload_n d_Tap_addNumber_25 rfl ?_
      refine j_iload_n d_Tap_addNumber_26 rfl ?_
      refine j_iushr d_Tap_addNumber_27 ?_
      refine z_sipush d_Tap_addNumber_28 (by decide) ?_
      refine j_iand d_Tap_addNumber_31 ?_
      rw [ub_bt k0 (by omega)]
      refine as_TP_1 d_Tap_addNumber_32 (by omega) (by omega) ?_
      rw [show up (adB n z k.toNat bz) (z + k) (ub (bt n k)) = adB n z (k + 1).toNat bz by rw [show (k + 1).toNat = k.toNat + 1 by omega]; show _ = up _ (z + ((k.toNat : Nat) : Int)) (ub (bt n ((k.toNat : Nat) : Int))); rw [Int.toNat_of_nonneg k0]]
      refine j_aload_n d_Tap_addNumber_33 rfl ?_
      refine j_dup d_Tap_addNumber_34 rfl ?_
      refine gf_TP_0_1 f_Tap_15 d_Tap_addNumber_35 ?_
      refine z_iconst d_Tap_addNumber_38 ?_
      refine z_iadd d_Tap_addNumber_39 ?_
      refine pf_TP_0_1 f_Tap_15 d_Tap_addNumber_40 ?_
      refine z_iinc d_Tap_addNumber_43 rfl (by decide) ?_
      show SJ _ _ _ _ [_, _, _] _ _ _ _ _
      rw [show 24 - 8 * k + -8 = 24 - 8 * (k + 1) by omega, show z + k + 1 = z + (k + 1) by omega]
      refine j_goto (t := 3) d_Tap_addNumber_46 (by decide) ?_
      exact ih _ (by omega) (k + 1) rfl (by omega) (by omega)
theorem t_Tap_addNumber {g : Bool} {d : Nat} {Q : List xM → Option Value → Prop} {pz pn : Int} {by_ tk ps pv pw : Int → Int} {n : Int} (r1 : R32 n) (z0_ : 0 ≤ pz) (z1_ : pz ≤ 396) (hQ : Q (W_TP (pz + 4) pn (adB n pz 4 by_) tk ps pv pw) none)  : CT g m_Tap_addNumber d [.ref 0, .int (ii n)] (W_TP pz pn by_ tk ps pv pw) 0 0 Q := by
  refine CT.of (by decide) (Nat.le_of_ble_eq_true rfl) ?_
  show SJ _ _ _ _ [some (.ref 0), some (.int (ii n)), none] [] _ _ _ _
  refine z_bipush d_Tap_addNumber_0 (by decide) ?_
  refine j_istore_n d_Tap_addNumber_2 (by decide) ?_
  show SJ _ _ _ _ [_, _, _] _ _ _ _ _
  have h := lp_adn (g := g) (d := d) (Q := Q) (tk := tk) (ps := ps) (pv := pv) (pw := pw) (pn := pn) r1 z0_ z1_ (bz := by_) hQ _ 0 rfl (by omega) (by omega)
  rw [Int.add_zero] at h
  exact h
