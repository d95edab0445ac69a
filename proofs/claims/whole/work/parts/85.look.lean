/-! the runner looks -/
def WLK (K : Int → Int) (rdn rlt p : Int) (wr : Int → Int) : Prop := wr 6 = K 0 ∧ wr 7 = K 21 ∧ wr 8 = rdn ∧ wr 9 = rlt ∧ wr 10 = lo K 0 (K 0) ∧ ∀ q, 0 ≤ q → q < p → wr (12 + q) = (if q < K 0 then K (1 + q) else -1) ∧ wr (32 + q) = (if q < K 0 then dp K q else -1)
theorem WLK.step {K : Int → Int} {rdn rlt p v w : Int} {wr : Int → Int} (h : WLK K rdn rlt p wr) (p0 : 0 ≤ p) (p1 : p < 20) (hv : v = (if p < K 0 then K (1 + p) else -1)) (hw : w = (if p < K 0 then dp K p else -1)) : WLK K rdn rlt (p + 1) (up (up wr (12 + p) v) (32 + p) w) := by
  obtain ⟨h1, h2, h3, h4, h5, h6⟩ := h
  refine ⟨?_, ?_, ?_, ?_, ?_, fun q q0 q1 => ?_⟩
  · rw [up_ne (by omega), up_ne (by omega)]; exact h1
  · rw [up_ne (by omega), up_ne (by omega)]; exact h2
  · rw [up_ne (by omega), up_ne (by omega)]; exact h3
  · rw [up_ne (by omega), up_ne (by omega)]; exact h4
  · rw [up_ne (by omega), up_ne (by omega)]; exact h5
  · by_cases e : q = p
    · rw [e, up_ne (by omega), up_eq, up_eq]
      exact ⟨hv, hw⟩
    · rw [up_ne (by omega), up_ne (by omega), up_ne (by omega), up_ne (by omega)]
      exact h6 q q0 (by omega)
def W_LK (rdn : Int) (rlt : Int) (lc : Int) (fo : Int) (rn : Int) (rl : Int) (rp : Int) (rs : Int → Int) (rm : Int → Int) (rd : Int → Int) (ro : Int → Int) (tm : Int → Int) (wr : Int → Int) : List xM := [.inr (6, [.int (ii rdn), .ref 1, .ref 9, .ref 10, .ref 11, .ref 12, .ref 8, .int (ii rlt)]), .inr (7, [.ref 2, .ref 7, .ref 13, .int (ii lc), .int (ii fo)]), .inr (5, [.ref 3, .int (ii rn), .ref 4, .ref 5, .ref 6, .int (ii rl), .int (ii rp)]), .inl (0, 20, .inl (ia (rs))), .inl (0, 20, .inl (ia (rm))), .inl (0, 20, .inl (ia (rd))), .inl (0, 20, .inl (ia (ro))), .inl (0, 3, .inl (ia (tm))), .inl (0, 52, .inl (ia (wr)))]
section WR_LK
variable {g : Bool} {y : xY} {d pc : Nat} {L : List (Option Value)} {zst : List Value} {bc bs : Nat} {Q : List xM → Option Value → Prop} {rdn rlt lc fo rn rl rp : Int} {rs rm rd ro tm wr : Int → Int} 
theorem gf_LK_0_0 {idx : Nat} (hf : x_fs y.1.cls idx 6 0) (hd : decode y.2.1 pc = .ok (.getfield idx, 3)) (kk : SJ g y d (pc + 3) L (.int (ii rdn) :: zst) (W_LK rdn rlt lc fo rn rl rp rs rm rd ro tm wr) bc bs Q) : SJ g y d pc L (.ref 0 :: zst) (W_LK rdn rlt lc fo rn rl rp rs rm rd ro tm wr) bc bs Q := j_getf hd hf rfl rfl kk
theorem pf_LK_0_0 {idx : Nat} {v : Int} (hf : x_fs y.1.cls idx 6 0) (hd : decode y.2.1 pc = .ok (.putfield idx, 3)) (kk : SJ g y d (pc + 3) L zst (W_LK v rlt lc fo rn rl rp rs rm rd ro tm wr) bc bs Q) : SJ g y d pc L (.int (ii v) :: .ref 0 :: zst) (W_LK rdn rlt lc fo rn rl rp rs rm rd ro tm wr) bc bs Q := j_putf (ci := 6) (k := 0) hd hf ⟨_, rfl, rfl, rfl⟩ rfl (Nat.le_of_ble_eq_true rfl) x_okI kk
theorem gf_LK_0_1 {idx : Nat} (hf : x_fs y.1.cls idx 6 1) (hd : decode y.2.1 pc = .ok (.getfield idx, 3)) (kk : SJ g y d (pc + 3) L (.ref 1 :: zst) (W_LK rdn rlt lc fo rn rl rp rs rm rd ro tm wr) bc bs Q) : SJ g y d pc L (.ref 0 :: zst) (W_LK rdn rlt lc fo rn rl rp rs rm rd ro tm wr) bc bs Q := j_getf hd hf rfl rfl kk
theorem gf_LK_0_2 {idx : Nat} (hf : x_fs y.1.cls idx 6 2) (hd : decode y.2.1 pc = .ok (.getfield idx, 3)) (kk : SJ g y d (pc + 3) L (.ref 9 :: zst) (W_LK rdn rlt lc fo rn rl rp rs rm rd ro tm wr) bc bs Q) : SJ g y d pc L (.ref 0 :: zst) (W_LK rdn rlt lc fo rn rl rp rs rm rd ro tm wr) bc bs Q := j_getf hd hf rfl rfl kk
theorem gf_LK_0_3 {idx : Nat} (hf : x_fs y.1.cls idx 6 3) (hd : decode y.2.1 pc = .ok (.getfield idx, 3)) (kk : SJ g y d (pc + 3) L (.ref 10 :: zst) (W_LK rdn rlt lc fo rn rl rp rs rm rd ro tm wr) bc bs Q) : SJ g y d pc L (.ref 0 :: zst) (W_LK rdn rlt lc fo rn rl rp rs rm rd ro tm wr) bc bs Q := j_getf hd hf rfl rfl kk
theorem gf_LK_0_4 {idx : Nat} (hf : x_fs y.1.cls idx 6 4) (hd : decode y.2.1 pc = .ok (.getfield idx, 3)) (kk : SJ g y d (pc + 3) L (.ref 11 :: zst) (W_LK rdn rlt lc fo rn rl rp rs rm rd ro tm wr) bc bs Q) : SJ g y d pc L (.ref 0 :: zst) (W_LK rdn rlt lc fo rn rl rp rs rm rd ro tm wr) bc bs Q := j_getf hd hf rfl rfl kk
theorem gf_LK_0_5 {idx : Nat} (hf : x_fs y.1.cls idx 6 5) (hd : decode y.2.1 pc = .ok (.getfield idx, 3)) (kk : SJ g y d (pc + 3) L (.ref 12 :: zst) (W_LK rdn rlt lc fo rn rl rp rs rm rd ro tm wr) bc bs Q) : SJ g y d pc L (.ref 0 :: zst) (W_LK rdn rlt lc fo rn rl rp rs rm rd ro tm wr) bc bs Q := j_getf hd hf rfl rfl kk
theorem gf_LK_0_6 {idx : Nat} (hf : x_fs y.1.cls idx 6 6) (hd : decode y.2.1 pc = .ok (.getfield idx, 3)) (kk : SJ g y d (pc + 3) L (.ref 8 :: zst) (W_LK rdn rlt lc fo rn rl rp rs rm rd ro tm wr) bc bs Q) : SJ g y d pc L (.ref 0 :: zst) (W_LK rdn rlt lc fo rn rl rp rs rm rd ro tm wr) bc bs Q := j_getf hd hf rfl rfl kk
theorem gf_LK_0_7 {idx : Nat} (hf : x_fs y.1.cls idx 6 7) (hd : decode y.2.1 pc = .ok (.getfield idx, 3)) (kk : SJ g y d (pc + 3) L (.int (ii rlt) :: zst) (W_LK rdn rlt lc fo rn rl rp rs rm rd ro tm wr) bc bs Q) : SJ g y d pc L (.ref 0 :: zst) (W_LK rdn rlt lc fo rn rl rp rs rm rd ro tm wr) bc bs Q := j_getf hd hf rfl rfl kk
theorem pf_LK_0_7 {idx : Nat} {v : Int} (hf : x_fs y.1.cls idx 6 7) (hd : decode y.2.1 pc = .ok (.putfield idx, 3)) (kk : SJ g y d (pc + 3) L zst (W_LK rdn v lc fo rn rl rp rs rm rd ro tm wr) bc bs Q) : SJ g y d pc L (.int (ii v) :: .ref 0 :: zst) (W_LK rdn rlt lc fo rn rl rp rs rm rd ro tm wr) bc bs Q := j_putf (ci := 6) (k := 7) hd hf ⟨_, rfl, rfl, rfl⟩ rfl (Nat.le_of_ble_eq_true rfl) x_okI kk
theorem gf_LK_1_0 {idx : Nat} (hf : x_fs y.1.cls idx 7 0) (hd : decode y.2.1 pc = .ok (.getfield idx, 3)) (kk : SJ g y d (pc + 3) L (.ref 2 :: zst) (W_LK rdn rlt lc fo rn rl rp rs rm rd ro tm wr) bc bs Q) : SJ g y d pc L (.ref 1 :: zst) (W_LK rdn rlt lc fo rn rl rp rs rm rd ro tm wr) bc bs Q := j_getf hd hf rfl rfl kk
theorem gf_LK_1_1 {idx : Nat} (hf : x_fs y.1.cls idx 7 1) (hd : decode y.2.1 pc = .ok (.getfield idx, 3)) (kk : SJ g y d (pc + 3) L (.ref 7 :: zst) (W_LK rdn rlt lc fo rn rl rp rs rm rd ro tm wr) bc bs Q) : SJ g y d pc L (.ref 1 :: zst) (W_LK rdn rlt lc fo rn rl rp rs rm rd ro tm wr) bc bs Q := j_getf hd hf rfl rfl kk
theorem gf_LK_1_2 {idx : Nat} (hf : x_fs y.1.cls idx 7 2) (hd : decode y.2.1 pc = .ok (.getfield idx, 3)) (kk : SJ g y d (pc + 3) L (.ref 13 :: zst) (W_LK rdn rlt lc fo rn rl rp rs rm rd ro tm wr) bc bs Q) : SJ g y d pc L (.ref 1 :: zst) (W_LK rdn rlt lc fo rn rl rp rs rm rd ro tm wr) bc bs Q := j_getf hd hf rfl rfl kk
theorem gf_LK_1_3 {idx : Nat} (hf : x_fs y.1.cls idx 7 3) (hd : decode y.2.1 pc = .ok (.getfield idx, 3)) (kk : SJ g y d (pc + 3) L (.int (ii lc) :: zst) (W_LK rdn rlt lc fo rn rl rp rs rm rd ro tm wr) bc bs Q) : SJ g y d pc L (.ref 1 :: zst) (W_LK rdn rlt lc fo rn rl rp rs rm rd ro tm wr) bc bs Q := j_getf hd hf rfl rfl kk
theorem pf_LK_1_3 {idx : Nat} {v : Int} (hf : x_fs y.1.cls idx 7 3) (hd : decode y.2.1 pc = .ok (.putfield idx, 3)) (kk : SJ g y d (pc + 3) L zst (W_LK rdn rlt v fo rn rl rp rs rm rd ro tm wr) bc bs Q) : SJ g y d pc L (.int (ii v) :: .ref 1 :: zst) (W_LK rdn rlt lc fo rn rl rp rs rm rd ro tm wr) bc bs Q := j_putf (ci := 7) (k := 3) hd hf ⟨_, rfl, rfl, rfl⟩ rfl (Nat.le_of_ble_eq_true rfl) x_okI kk
theorem gf_LK_1_4 {idx : Nat} (hf : x_fs y.1.cls idx 7 4) (hd : decode y.2.1 pc = .ok (.getfield idx, 3)) (kk : SJ g y d (pc + 3) L (.int (ii fo) :: zst) (W_LK rdn rlt lc fo rn rl rp rs rm rd ro tm wr) bc bs Q) : SJ g y d pc L (.ref 1 :: zst) (W_LK rdn rlt lc fo rn rl rp rs rm rd ro tm wr) bc bs Q := j_getf hd hf rfl rfl kk
theorem pf_LK_1_4 {idx : Nat} {v : Int} (hf : x_fs y.1.cls idx 7 4) (hd : decode y.2.1 pc = .ok (.putfield idx, 3)) (kk : SJ g y d (pc + 3) L zst (W_LK rdn rlt lc v rn rl rp rs rm rd ro tm wr) bc bs Q) : SJ g y d pc L (.int (ii v) :: .ref 1 :: zst) (W_LK rdn rlt lc fo rn rl rp rs rm rd ro tm wr) bc bs Q := j_putf (ci := 7) (k := 4) hd hf ⟨_, rfl, rfl, rfl⟩ rfl (Nat.le_of_ble_eq_true rfl) x_okI kk
theorem gf_LK_2_0 {idx : Nat} (hf : x_fs y.1.cls idx 5 0) (hd : decode y.2.1 pc = .ok (.getfield idx, 3)) (kk : SJ g y d (pc + 3) L (.ref 3 :: zst) (W_LK rdn rlt lc fo rn rl rp rs rm rd ro tm wr) bc bs Q) : SJ g y d pc L (.ref 2 :: zst) (W_LK rdn rlt lc fo rn rl rp rs rm rd ro tm wr) bc bs Q := j_getf hd hf rfl rfl kk
theorem gf_LK_2_1 {idx : Nat} (hf : x_fs y.1.cls idx 5 1) (hd : decode y.2.1 pc = .ok (.getfield idx, 3)) (kk : SJ g y d (pc + 3) L (.int (ii rn) :: zst) (W_LK rdn rlt lc fo rn rl rp rs rm rd ro tm wr) bc bs Q) : SJ g y d pc L (.ref 2 :: zst) (W_LK rdn rlt lc fo rn rl rp rs rm rd ro tm wr) bc bs Q := j_getf hd hf rfl rfl kk
theorem pf_LK_2_1 {idx : Nat} {v : Int} (hf : x_fs y.1.cls idx 5 1) (hd : decode y.2.1 pc = .ok (.putfield idx, 3)) (kk : SJ g y d (pc + 3) L zst (W_LK rdn rlt lc fo v rl rp rs rm rd ro tm wr) bc bs Q) : SJ g y d pc L (.int (ii v) :: .ref 2 :: zst) (W_LK rdn rlt lc fo rn rl rp rs rm rd ro tm wr) bc bs Q := j_putf (ci := 5) (k := 1) hd hf ⟨_, rfl, rfl, rfl⟩ rfl (Nat.le_of_ble_eq_true rfl) x_okI kk
theorem gf_LK_2_2 {idx : Nat} (hf : x_fs y.1.cls idx 5 2) (hd : decode y.2.1 pc = .ok (.getfield idx, 3)) (kk : SJ g y d (pc + 3) L (.ref 4 :: zst) (W_LK rdn rlt lc fo rn rl rp rs rm rd ro tm wr) bc bs Q) : SJ g y d pc L (.ref 2 :: zst) (W_LK rdn rlt lc fo rn rl rp rs rm rd ro tm wr) bc bs Q := j_getf hd hf rfl rfl kk
theorem gf_LK_2_3 {idx : Nat} (hf : x_fs y.1.cls idx 5 3) (hd : decode y.2.1 pc = .ok (.getfield idx, 3)) (kk : SJ g y d (pc + 3) L (.ref 5 :: zst) (W_LK rdn rlt lc fo rn rl rp rs rm rd ro tm wr) bc bs Q) : SJ g y d pc L (.ref 2 :: zst) (W_LK rdn rlt lc fo rn rl rp rs rm rd ro tm wr) bc bs Q := j_getf hd hf rfl rfl kk
theorem gf_LK_2_4 {idx : Nat} (hf : x_fs y.1.cls idx 5 4) (hd : decode y.2.1 pc = .ok (.getfield idx, 3)) (kk : SJ g y d (pc + 3) L (.ref 6 :: zst) (W_LK rdn rlt lc fo rn rl rp rs rm rd ro tm wr) bc bs Q) : SJ g y d pc L (.ref 2 :: zst) (W_LK rdn rlt lc fo rn rl rp rs rm rd ro tm wr) bc bs Q := j_getf hd hf rfl rfl kk
theorem gf_LK_2_5 {idx : Nat} (hf : x_fs y.1.cls idx 5 5) (hd : decode y.2.1 pc = .ok (.getfield idx, 3)) (kk : SJ g y d (pc + 3) L (.int (ii rl) :: zst) (W_LK rdn rlt lc fo rn rl rp rs rm rd ro tm wr) bc bs Q) : SJ g y d pc L (.ref 2 :: zst) (W_LK rdn rlt lc fo rn rl rp rs rm rd ro tm wr) bc bs Q := j_getf hd hf rfl rfl kk
theorem pf_LK_2_5 {idx : Nat} {v : Int} (hf : x_fs y.1.cls idx 5 5) (hd : decode y.2.1 pc = .ok (.putfield idx, 3)) (kk : SJ g y d (pc + 3) L zst (W_LK rdn rlt lc fo rn v rp rs rm rd ro tm wr) bc bs Q) : SJ g y d pc L (.int (ii v) :: .ref 2 :: zst) (W_LK rdn rlt lc fo rn rl rp rs rm rd ro tm wr) bc bs Q := j_putf (ci := 5) (k := 5) hd hf ⟨_, rfl, rfl, rfl⟩ rfl (Nat.le_of_ble_eq_true rfl) x_okI kk
theorem gf_LK_2_6 {idx : Nat} (hf : x_fs y.1.cls idx 5 6) (hd : decode y.2.1 pc = .ok (.getfield idx, 3)) (kk : SJ g y d (pc + 3) L (.int (ii rp) :: zst) (W_LK rdn rlt lc fo rn rl rp rs rm rd ro tm wr) bc bs Q) : SJ g y d pc L (.ref 2 :: zst) (W_LK rdn rlt lc fo rn rl rp rs rm rd ro tm wr) bc bs Q := j_getf hd hf rfl rfl kk
theorem pf_LK_2_6 {idx : Nat} {v : Int} (hf : x_fs y.1.cls idx 5 6) (hd : decode y.2.1 pc = .ok (.putfield idx, 3)) (hv : v = 0 ∨ v = 1) (kk : SJ g y d (pc + 3) L zst (W_LK rdn rlt lc fo rn rl v rs rm rd ro tm wr) bc bs Q) : SJ g y d pc L (.int (ii v) :: .ref 2 :: zst) (W_LK rdn rlt lc fo rn rl rp rs rm rd ro tm wr) bc bs Q := j_putf (ci := 5) (k := 6) hd hf ⟨_, rfl, rfl, rfl⟩ rfl (Nat.le_of_ble_eq_true rfl) (by rcases hv with rfl | rfl; exact x_ok0; exact x_ok1) kk
theorem al_LK_3 {a : Int} (hd : decode y.2.1 pc = .ok (.iaload, 1)) (h0 : 0 ≤ a) (h1 : a < 20) (kk : SJ g y d (pc + 1) L (.int (ii (rs a)) :: zst) (W_LK rdn rlt lc fo rn rl rp rs rm rd ro tm wr) bc bs Q) : SJ g y d pc L (.int (ii a) :: .ref 3 :: zst) (W_LK rdn rlt lc fo rn rl rp rs rm rd ro tm wr) bc bs Q := z_iald hd rfl h0 h1 ⟨by omega, by omega⟩ kk
theorem as_LK_3 {a v : Int} (hd : decode y.2.1 pc = .ok (.iastore, 1)) (h0 : 0 ≤ a) (h1 : a < 20) (kk : SJ g y d (pc + 1) L zst (W_LK rdn rlt lc fo rn rl rp (up rs a v) rm rd ro tm wr) bc bs Q) : SJ g y d pc L (.int (ii v) :: .int (ii a) :: .ref 3 :: zst) (W_LK rdn rlt lc fo rn rl rp rs rm rd ro tm wr) bc bs Q := z_iast hd rfl h0 h1 ⟨by omega, by omega⟩ kk
theorem al_LK_4 {a : Int} (hd : decode y.2.1 pc = .ok (.iaload, 1)) (h0 : 0 ≤ a) (h1 : a < 20) (kk : SJ g y d (pc + 1) L (.int (ii (rm a)) :: zst) (W_LK rdn rlt lc fo rn rl rp rs rm rd ro tm wr) bc bs Q) : SJ g y d pc L (.int (ii a) :: .ref 4 :: zst) (W_LK rdn rlt lc fo rn rl rp rs rm rd ro tm wr) bc bs Q := z_iald hd rfl h0 h1 ⟨by omega, by omega⟩ kk
theorem as_LK_4 {a v : Int} (hd : decode y.2.1 pc = .ok (.iastore, 1)) (h0 : 0 ≤ a) (h1 : a < 20) (kk : SJ g y d (pc + 1) L zst (W_LK rdn rlt lc fo rn rl rp rs (up rm a v) rd ro tm wr) bc bs Q) : SJ g y d pc L (.int (ii v) :: .int (ii a) :: .ref 4 :: zst) (W_LK rdn rlt lc fo rn rl rp rs rm rd ro tm wr) bc bs Q := z_iast hd rfl h0 h1 ⟨by omega, by omega⟩ kk
theorem al_LK_5 {a : Int} (hd : decode y.2.1 pc = .ok (.iaload, 1)) (h0 : 0 ≤ a) (h1 : a < 20) (kk : SJ g y d (pc + 1) L (.int (ii (rd a)) :: zst) (W_LK rdn rlt lc fo rn rl rp rs rm rd ro tm wr) bc bs Q) : SJ g y d pc L (.int (ii a) :: .ref 5 :: zst) (W_LK rdn rlt lc fo rn rl rp rs rm rd ro tm wr) bc bs Q := z_iald hd rfl h0 h1 ⟨by omega, by omega⟩ kk
theorem as_LK_5 {a v : Int} (hd : decode y.2.1 pc = .ok (.iastore, 1)) (h0 : 0 ≤ a) (h1 : a < 20) (kk : SJ g y d (pc + 1) L zst (W_LK rdn rlt lc fo rn rl rp rs rm (up rd a v) ro tm wr) bc bs Q) : SJ g y d pc L (.int (ii v) :: .int (ii a) :: .ref 5 :: zst) (W_LK rdn rlt lc fo rn rl rp rs rm rd ro tm wr) bc bs Q := z_iast hd rfl h0 h1 ⟨by omega, by omega⟩ kk
theorem al_LK_6 {a : Int} (hd : decode y.2.1 pc = .ok (.iaload, 1)) (h0 : 0 ≤ a) (h1 : a < 20) (kk : SJ g y d (pc + 1) L (.int (ii (ro a)) :: zst) (W_LK rdn rlt lc fo rn rl rp rs rm rd ro tm wr) bc bs Q) : SJ g y d pc L (.int (ii a) :: .ref 6 :: zst) (W_LK rdn rlt lc fo rn rl rp rs rm rd ro tm wr) bc bs Q := z_iald hd rfl h0 h1 ⟨by omega, by omega⟩ kk
theorem as_LK_6 {a v : Int} (hd : decode y.2.1 pc = .ok (.iastore, 1)) (h0 : 0 ≤ a) (h1 : a < 20) (kk : SJ g y d (pc + 1) L zst (W_LK rdn rlt lc fo rn rl rp rs rm rd (up ro a v) tm wr) bc bs Q) : SJ g y d pc L (.int (ii v) :: .int (ii a) :: .ref 6 :: zst) (W_LK rdn rlt lc fo rn rl rp rs rm rd ro tm wr) bc bs Q := z_iast hd rfl h0 h1 ⟨by omega, by omega⟩ kk
theorem al_LK_7 {a : Int} (hd : decode y.2.1 pc = .ok (.iaload, 1)) (h0 : 0 ≤ a) (h1 : a < 3) (kk : SJ g y d (pc + 1) L (.int (ii (tm a)) :: zst) (W_LK rdn rlt lc fo rn rl rp rs rm rd ro tm wr) bc bs Q) : SJ g y d pc L (.int (ii a) :: .ref 7 :: zst) (W_LK rdn rlt lc fo rn rl rp rs rm rd ro tm wr) bc bs Q := z_iald hd rfl h0 h1 ⟨by omega, by omega⟩ kk
theorem as_LK_7 {a v : Int} (hd : decode y.2.1 pc = .ok (.iastore, 1)) (h0 : 0 ≤ a) (h1 : a < 3) (kk : SJ g y d (pc + 1) L zst (W_LK rdn rlt lc fo rn rl rp rs rm rd ro (up tm a v) wr) bc bs Q) : SJ g y d pc L (.int (ii v) :: .int (ii a) :: .ref 7 :: zst) (W_LK rdn rlt lc fo rn rl rp rs rm rd ro tm wr) bc bs Q := z_iast hd rfl h0 h1 ⟨by omega, by omega⟩ kk
theorem al_LK_8 {a : Int} (hd : decode y.2.1 pc = .ok (.iaload, 1)) (h0 : 0 ≤ a) (h1 : a < 52) (kk : SJ g y d (pc + 1) L (.int (ii (wr a)) :: zst) (W_LK rdn rlt lc fo rn rl rp rs rm rd ro tm wr) bc bs Q) : SJ g y d pc L (.int (ii a) :: .ref 8 :: zst) (W_LK rdn rlt lc fo rn rl rp rs rm rd ro tm wr) bc bs Q := z_iald hd rfl h0 h1 ⟨by omega, by omega⟩ kk
theorem as_LK_8 {a v : Int} (hd : decode y.2.1 pc = .ok (.iastore, 1)) (h0 : 0 ≤ a) (h1 : a < 52) (kk : SJ g y d (pc + 1) L zst (W_LK rdn rlt lc fo rn rl rp rs rm rd ro tm (up wr a v)) bc bs Q) : SJ g y d pc L (.int (ii v) :: .int (ii a) :: .ref 8 :: zst) (W_LK rdn rlt lc fo rn rl rp rs rm rd ro tm wr) bc bs Q := z_iast hd rfl h0 h1 ⟨by omega, by omega⟩ kk
end WR_LK
theorem E_LK_Row {g : Bool} {y : xY} {d : Nat} {args as2 : List Value} {Q : List xM → Option Value → Prop} {rdn rlt lc fo rn rl rp : Int} {rs rm rd ro tm wr : Int → Int} (h : ∀ Q2 : List xM → Option Value → Prop, (∀ (rn_ : Int) (rl_ : Int) (rp_ : Int) (rs_ : Int → Int) (rm_ : Int → Int) (rd_ : Int → Int) (ro_ : Int → Int) (r : Option Value), r.map (r_v (sgl [2, 3, 4, 5, 6] 7)) = r → Q (W_LK rdn rlt lc fo rn_ rl_ rp_ rs_ rm_ rd_ ro_ tm wr) r → Q2 (W_Row rn_ rl_ rp_ rs_ rm_ rd_ ro_) r) → CT false y d args (W_Row rn rl rp rs rm rd ro) 0 0 Q2) (ha2 : as2 = args.map (r_v (sgl [2, 3, 4, 5, 6] 7))) : CT g y d as2 (W_LK rdn rlt lc fo rn rl rp rs rm rd ro tm wr) 0 0 Q :=
  CT.sub (sgl [2, 3, 4, 5, 6] 7) (sgl_inj (by decide) (by decide)) (Emb.hs (Emb.cons rfl (Emb.cons rfl (Emb.cons rfl (Emb.cons rfl (Emb.cons rfl (Emb.nil))))))) ha2 (h _ (fun _ _ _ _ _ _ _ r hr hq => ⟨rfl, by rw [hr]; exact hq⟩))
theorem lp_look {g : Bool} {d : Nat} {Q : List xM → Option Value → Prop} {rdn rlt lc fo rn : Int} {rs tm : Int → Int} {K : Int → Int} (ht0 : tm 0 = K 21) (hQ : ∀ rl rp rm rd ro wr, RI K rn rl rp rs rm rd → WLK K rdn rlt 20 wr → Q (W_LK rdn rlt lc fo rn rl rp rs rm rd ro tm wr) none)  : ∀ (nn : Nat) (p : Int) (rl : Int) (rp : Int) (rm : Int → Int) (rd : Int → Int) (ro : Int → Int) (wr : Int → Int), (20 - p).toNat = nn → 0 ≤ p → p ≤ 20 → RI K rn rl rp rs rm rd → WLK K rdn rlt p wr → SJ g m_Run_look (d + 4) 74 [some (.ref 0), some (.int (ii p)), none] [] (W_LK rdn rlt lc fo rn rl rp rs rm rd ro tm wr) 0 0 Q := by
  intro nn
  induction nn using Nat.strongRecOn with
  | ind nn ih =>
  intro p rl rp rm rd ro wr hn p0 p1 hR hw
  obtain ⟨hrn, ⟨hn0, hn1⟩, hrs, hrp, hpu⟩ := id hR
  refine j_iload_n d_Run_look_74 rfl ?_
  refine z_bipush d_Run_look_75 (by decide) ?_
  refine z_icmp_ge (t := 155) d_Run_look_77 (by decide) (by first | omega | exact hw _ | exact hx _ _ | assumption) (by first | omega | exact hw _ | exact hx _ _ | assumption) (fun h77 => ?_) (fun h77 => ?_)
  · have e : p = 20 := by omega
    subst e
    exact j_return rfl d_Run_look_155 (hQ _ _ _ _ _ _ hR hw)
  · refine j_aload_n d_Run_look_80 rfl ?_
    refine gf_LK_0_1 f_Run_36 d_Run_look_81 ?_
    refine gf_LK_1_0 f_Run_112 d_Run_look_84 ?_
    refine j_iload_n d_Run_look_87 rfl ?_
    refine v_call1 d_Run_look_88 c_Run_127 rfl ⟨_, rfl, rfl⟩ (Nat.le_of_ble_eq_true rfl) (E_LK_Row (fun Q2 kz => t_Row_has (by omega) (by omega) (fun h88 => kz _ _ _ _ _ _ _ _ rfl ?_) (fun h88 => kz _ _ _ _ _ _ _ _ rfl ?_)) rfl)
    · refine j_istore_n d_Run_look_91 (by decide) ?_
      show SJ _ _ _ _ [_, _, _] _ _ _ _ _
      refine j_aload_n d_Run_look_92 rfl ?_
      refine gf_LK_0_6 f_Run_29 d_Run_look_93 ?_
      refine z_bipush d_Run_look_96 (by decide) ?_
      refine j_iload_n d_Run_look_98 rfl ?_
      refine z_iadd d_Run_look_99 ?_
      refine j_iload_n d_Run_look_100 rfl ?_
      refine z_if_eq (t := 119) d_Run_look_101 (by decide) (by first | omega | exact hw _ | exact hx _ _ | assumption) (fun h => absurd h (by decide)) (fun _ => ?_)
      refine j_aload_n d_Run_look_104 rfl ?_
      refine gf_LK_0_1 f_Run_36 d_Run_look_105 ?_
      refine gf_LK_1_0 f_Run_112 d_Run_look_108 ?_
      refine gf_LK_2_0 f_Run_131 d_Run_look_111 ?_
      refine j_iload_n d_Run_look_114 rfl ?_
      refine al_LK_3 d_Run_look_115 (by omega) (by omega) ?_
      refine j_goto (t := 120) d_Run_look_116 (by decide) ?_
      refine as_LK_8 d_Run_look_120 (by omega) (by omega) ?_
      refine j_aload_n d_Run_look_121 rfl ?_
      refine gf_LK_0_6 f_Run_29 d_Run_look_122 ?_
      refine z_bipush d_Run_look_125 (by decide) ?_
      refine j_iload_n d_Run_look_127 rfl ?_
      refine z_iadd d_Run_look_128 ?_
      refine j_iload_n d_Run_look_129 rfl ?_
      refine z_if_eq (t := 147) d_Run_look_130 (by decide) (by first | omega | exact hw _ | exact hx _ _ | assumption) (fun h => absurd h (by decide)) (fun _ => ?_)
      refine j_aload_n d_Run_look_133 rfl ?_
      refine gf_LK_0_1 f_Run_36 d_Run_look_134 ?_
      refine gf_LK_1_0 f_Run_112 d_Run_look_137 ?_
      refine j_iload_n d_Run_look_140 rfl ?_
      refine v_call1 d_Run_look_141 c_Run_134 rfl ⟨_, rfl, rfl⟩ (Nat.le_of_ble_eq_true rfl) (E_LK_Row (fun Q2 kz => t_Row_depthOf hR p0 (by omega) (fun rl2 rp2 rm2 rd2 ro2 hR2 => kz _ _ _ _ _ _ _ _ rfl ?_)) rfl)
      refine j_goto (t := 148) d_Run_look_144 (by decide) ?_
      refine as_LK_8 d_Run_look_148 (by omega) (by omega) ?_
      refine z_iinc d_Run_look_149 rfl (by decide) ?_
      show SJ _ _ _ _ [_, _, _] _ _ _ _ _
      refine j_goto (t := 74) d_Run_look_152 (by decide) ?_
      refine SJ.mask [true, true, false] ?_
      show SJ _ _ _ _ [_, _, none] _ _ _ _ _
      first
      | exact ih _ (by omega) (p + 1) _ _ _ _ _ _ rfl (by omega) (by omega) hR2 (hw.step p0 (by omega) (by rw [if_pos (by omega)]; exact (hrs p p0 (by omega)).1) (by rw [if_pos (by omega)]))
      | exact ih _ (by omega) (p + 1) _ _ _ _ _ _ rfl (by omega) (by omega) hR (hw.step p0 (by omega) (by rw [if_neg (by omega)]) (by rw [if_neg (by omega)]))
    · refine j_istore_n d_Run_look_91 (by decide) ?_
      show SJ _ _ _ _ [_, _, _] _ _ _ _ _
      refine j_aload_n d_Run_look_92 rfl ?_
      refine gf_LK_0_6 f_Run_29 d_Run_look_93 ?_
      refine z_bipush d_Run_look_96 (by decide) ?_
      refine j_iload_n d_Run_look_98 rfl ?_
      refine z_iadd d_Run_look_99 ?_
      refine j_iload_n d_Run_look_100 rfl ?_
      refine z_if_eq (t := 119) d_Run_look_101 (by decide) (by first | omega | exact hw _ | exact hx _ _ | assumption) (fun _ => ?_) (fun h => absurd h (by decide))
      refine z_iconst d_Run_look_119 ?_
      refine as_LK_8 d_Run_look_120 (by omega) (by omega) ?_
      refine j_aload_n d_Run_look_121 rfl ?_
      refine gf_LK_0_6 f_Run_29 d_Run_look_122 ?_
      refine z_bipush d_Run_look_125 (by decide) ?_
      refine j_iload_n d_Run_look_127 rfl ?_
      refine z_iadd d_Run_look_128 ?_
      refine j_iload_n d_Run_look_129 rfl ?_
      refine z_if_eq (t := 147) d_Run_look_130 (by decide) (by first | omega | exact hw _ | exact hx _ _ | assumption) (fun _ => ?_) (fun h => absurd h (by decide))
      refine z_iconst d_Run_look_147 ?_
      refine as_LK_8 d_Run_look_148 (by omega) (by omega) ?_
      refine z_iinc d_Run_look_149 rfl (by decide) ?_
      show SJ _ _ _ _ [_, _, _] _ _ _ _ _
      refine j_goto (t := 74) d_Run_look_152 (by decide) ?_
      refine SJ.mask [true, true, false] ?_
      show SJ _ _ _ _ [_, _, none] _ _ _ _ _
      first
      | exact ih _ (by omega) (p + 1) _ _ _ _ _ _ rfl (by omega) (by omega) hR2 (hw.step p0 (by omega) (by rw [if_pos (by omega)]; exact (hrs p p0 (by omega)).1) (by rw [if_pos (by omega)]))
      | exact ih _ (by omega) (p + 1) _ _ _ _ _ _ rfl (by omega) (by omega) hR (hw.step p0 (by omega) (by rw [if_neg (by omega)]) (by rw [if_neg (by omega)]))
theorem t_Run_look {g : Bool} {d : Nat} {Q : List xM → Option Value → Prop} {rdn rlt lc fo rn rl rp : Int} {rs rm rd ro tm wr : Int → Int} {K : Int → Int} (ht0 : tm 0 = K 21) (hR : RI K rn rl rp rs rm rd) (hQ : ∀ rl rp rm rd ro wr, RI K rn rl rp rs rm rd → WLK K rdn rlt 20 wr → Q (W_LK rdn rlt lc fo rn rl rp rs rm rd ro tm wr) none)  : CT g m_Run_look (d + 4) [.ref 0] (W_LK rdn rlt lc fo rn rl rp rs rm rd ro tm wr) 0 0 Q := by
  refine CT.of (by decide) (Nat.le_of_ble_eq_true rfl) ?_
  show SJ _ _ _ _ [some (.ref 0), none, none] [] _ _ _ _
  obtain ⟨hrn, ⟨hn0, hn1⟩, hrs, hrp, hpu⟩ := id hR
  refine j_aload_n d_Run_look_0 rfl ?_
  refine gf_LK_0_6 f_Run_29 d_Run_look_1 ?_
  refine z_bipush d_Run_look_4 (by decide) ?_
  refine j_aload_n d_Run_look_6 rfl ?_
  refine gf_LK_0_1 f_Run_36 d_Run_look_7 ?_
  refine gf_LK_1_0 f_Run_112 d_Run_look_10 ?_
  refine gf_LK_2_1 f_Run_116 d_Run_look_13 ?_
  refine as_LK_8 d_Run_look_16 (by omega) (by omega) ?_
  refine j_aload_n d_Run_look_17 rfl ?_
  refine gf_LK_0_6 f_Run_29 d_Run_look_18 ?_
  refine z_bipush d_Run_look_21 (by decide) ?_
  refine j_aload_n d_Run_look_23 rfl ?_
  refine gf_LK_0_1 f_Run_36 d_Run_look_24 ?_
  refine gf_LK_1_1 f_Run_121 d_Run_look_27 ?_
  refine z_iconst d_Run_look_30 ?_
  refine al_LK_7 d_Run_look_31 (by omega) (by omega) ?_
  refine as_LK_8 d_Run_look_32 (by omega) (by omega) ?_
  refine j_aload_n d_Run_look_33 rfl ?_
  refine gf_LK_0_6 f_Run_29 d_Run_look_34 ?_
  refine z_bipush d_Run_look_37 (by decide) ?_
  refine j_aload_n d_Run_look_39 rfl ?_
  refine gf_LK_0_0 f_Run_9 d_Run_look_40 ?_
  refine as_LK_8 d_Run_look_43 (by omega) (by omega) ?_
  refine j_aload_n d_Run_look_44 rfl ?_
  refine gf_LK_0_6 f_Run_29 d_Run_look_45 ?_
  refine z_bipush d_Run_look_48 (by decide) ?_
  refine j_aload_n d_Run_look_50 rfl ?_
  refine gf_LK_0_7 f_Run_33 d_Run_look_51 ?_
  refine as_LK_8 d_Run_look_54 (by omega) (by omega) ?_
  refine j_aload_n d_Run_look_55 rfl ?_
  refine gf_LK_0_6 f_Run_29 d_Run_look_56 ?_
  refine z_bipush d_Run_look_59 (by decide) ?_
  refine j_aload_n d_Run_look_61 rfl ?_
  refine gf_LK_0_1 f_Run_36 d_Run_look_62 ?_
  refine gf_LK_1_0 f_Run_112 d_Run_look_65 ?_
  refine v_call0 d_Run_look_68 c_Run_124 rfl ⟨_, rfl, rfl⟩ (Nat.le_of_ble_eq_true rfl) (E_LK_Row (fun Q2 kz => t_Row_looseOnes hR (fun rl2 rp2 rm2 rd2 ro2 hR2 => kz _ _ _ _ _ _ _ _ rfl ?_)) rfl)
  refine as_LK_8 d_Run_look_71 (by omega) (by omega) ?_
  refine z_iconst d_Run_look_72 ?_
  refine j_istore_n d_Run_look_73 (by decide) ?_
  show SJ _ _ _ _ [_, _, _] _ _ _ _ _
  refine lp_look ht0 hQ _ 0 _ _ _ _ _ _ rfl (by omega) (by omega) hR2 ⟨?_, ?_, ?_, ?_, ?_, fun q q0 q1 => by omega⟩
  · rw [up_ne (by omega), up_ne (by omega), up_ne (by omega), up_ne (by omega), up_eq]; exact hrn
  · rw [up_ne (by omega), up_ne (by omega), up_ne (by omega), up_eq]; exact ht0
  · rw [up_ne (by omega), up_ne (by omega), up_eq]
  · rw [up_ne (by omega), up_eq]
  · rw [up_eq]
