def W_Row (rn : Int) (rl : Int) (rp : Int) (rs : Int → Int) (rm : Int → Int) (rd : Int → Int) (ro : Int → Int) : List xM := [.inr (5, [.ref 1, .int (ii rn), .ref 2, .ref 3, .ref 4, .int (ii rl), .int (ii rp)]), .inl (0, 20, .inl (ia (rs))), .inl (0, 20, .inl (ia (rm))), .inl (0, 20, .inl (ia (rd))), .inl (0, 20, .inl (ia (ro)))]
section WR_Row
variable {g : Bool} {y : xY} {d pc : Nat} {L : List (Option Value)} {zst : List Value} {bc bs : Nat} {Q : List xM → Option Value → Prop} {rn rl rp : Int} {rs rm rd ro : Int → Int} 
theorem gf_Row_0_0 {idx : Nat} (hf : x_fs y.1.cls idx 5 0) (hd : decode y.2.1 pc = .ok (.getfield idx, 3)) (kk : SJ g y d (pc + 3) L (.ref 1 :: zst) (W_Row rn rl rp rs rm rd ro) bc bs Q) : SJ g y d pc L (.ref 0 :: zst) (W_Row rn rl rp rs rm rd ro) bc bs Q := j_getf hd hf rfl rfl kk
theorem gf_Row_0_1 {idx : Nat} (hf : x_fs y.1.cls idx 5 1) (hd : decode y.2.1 pc = .ok (.getfield idx, 3)) (kk : SJ g y d (pc + 3) L (.int (ii rn) :: zst) (W_Row rn rl rp rs rm rd ro) bc bs Q) : SJ g y d pc L (.ref 0 :: zst) (W_Row rn rl rp rs rm rd ro) bc bs Q := j_getf hd hf rfl rfl kk
theorem pf_Row_0_1 {idx : Nat} {v : Int} (hf : x_fs y.1.cls idx 5 1) (hd : decode y.2.1 pc = .ok (.putfield idx, 3)) (kk : SJ g y d (pc + 3) L zst (W_Row v rl rp rs rm rd ro) bc bs Q) : SJ g y d pc L (.int (ii v) :: .ref 0 :: zst) (W_Row rn rl rp rs rm rd ro) bc bs Q := j_putf (ci := 5) (k := 1) hd hf ⟨_, rfl, rfl, rfl⟩ rfl (Nat.le_of_ble_eq_true rfl) x_okI kk
theorem gf_Row_0_2 {idx : Nat} (hf : x_fs y.1.cls idx 5 2) (hd : decode y.2.1 pc = .ok (.getfield idx, 3)) (kk : SJ g y d (pc + 3) L (.ref 2 :: zst) (W_Row rn rl rp rs rm rd ro) bc bs Q) : SJ g y d pc L (.ref 0 :: zst) (W_Row rn rl rp rs rm rd ro) bc bs Q := j_getf hd hf rfl rfl kk
theorem gf_Row_0_3 {idx : Nat} (hf : x_fs y.1.cls idx 5 3) (hd : decode y.2.1 pc = .ok (.getfield idx, 3)) (kk : SJ g y d (pc + 3) L (.ref 3 :: zst) (W_Row rn rl rp rs rm rd ro) bc bs Q) : SJ g y d pc L (.ref 0 :: zst) (W_Row rn rl rp rs rm rd ro) bc bs Q := j_getf hd hf rfl rfl kk
theorem gf_Row_0_4 {idx : Nat} (hf : x_fs y.1.cls idx 5 4) (hd : decode y.2.1 pc = .ok (.getfield idx, 3)) (kk : SJ g y d (pc + 3) L (.ref 4 :: zst) (W_Row rn rl rp rs rm rd ro) bc bs Q) : SJ g y d pc L (.ref 0 :: zst) (W_Row rn rl rp rs rm rd ro) bc bs Q := j_getf hd hf rfl rfl kk
theorem gf_Row_0_5 {idx : Nat} (hf : x_fs y.1.cls idx 5 5) (hd : decode y.2.1 pc = .ok (.getfield idx, 3)) (kk : SJ g y d (pc + 3) L (.int (ii rl) :: zst) (W_Row rn rl rp rs rm rd ro) bc bs Q) : SJ g y d pc L (.ref 0 :: zst) (W_Row rn rl rp rs rm rd ro) bc bs Q := j_getf hd hf rfl rfl kk
theorem pf_Row_0_5 {idx : Nat} {v : Int} (hf : x_fs y.1.cls idx 5 5) (hd : decode y.2.1 pc = .ok (.putfield idx, 3)) (kk : SJ g y d (pc + 3) L zst (W_Row rn v rp rs rm rd ro) bc bs Q) : SJ g y d pc L (.int (ii v) :: .ref 0 :: zst) (W_Row rn rl rp rs rm rd ro) bc bs Q := j_putf (ci := 5) (k := 5) hd hf ⟨_, rfl, rfl, rfl⟩ rfl (Nat.le_of_ble_eq_true rfl) x_okI kk
theorem gf_Row_0_6 {idx : Nat} (hf : x_fs y.1.cls idx 5 6) (hd : decode y.2.1 pc = .ok (.getfield idx, 3)) (kk : SJ g y d (pc + 3) L (.int (ii rp) :: zst) (W_Row rn rl rp rs rm rd ro) bc bs Q) : SJ g y d pc L (.ref 0 :: zst) (W_Row rn rl rp rs rm rd ro) bc bs Q := j_getf hd hf rfl rfl kk
theorem pf_Row_0_6 {idx : Nat} {v : Int} (hf : x_fs y.1.cls idx 5 6) (hd : decode y.2.1 pc = .ok (.putfield idx, 3)) (hv : v = 0 ∨ v = 1) (kk : SJ g y d (pc + 3) L zst (W_Row rn rl v rs rm rd ro) bc bs Q) : SJ g y d pc L (.int (ii v) :: .ref 0 :: zst) (W_Row rn rl rp rs rm rd ro) bc bs Q := j_putf (ci := 5) (k := 6) hd hf ⟨_, rfl, rfl, rfl⟩ rfl (Nat.le_of_ble_eq_true rfl) (by rcases hv with rfl | rfl; exact x_ok0; exact x_ok1) kk
theorem al_Row_1 {a : Int} (hd : decode y.2.1 pc = .ok (.iaload, 1)) (h0 : 0 ≤ a) (h1 : a < 20) (kk : SJ g y d (pc + 1) L (.int (ii (rs a)) :: zst) (W_Row rn rl rp rs rm rd ro) bc bs Q) : SJ g y d pc L (.int (ii a) :: .ref 1 :: zst) (W_Row rn rl rp rs rm rd ro) bc bs Q := z_iald hd rfl h0 h1 ⟨by omega, by omega⟩ kk
theorem as_Row_1 {a v : Int} (hd : decode y.2.1 pc = .ok (.iastore, 1)) (h0 : 0 ≤ a) (h1 : a < 20) (kk : SJ g y d (pc + 1) L zst (W_Row rn rl rp (up rs a v) rm rd ro) bc bs Q) : SJ g y d pc L (.int (ii v) :: .int (ii a) :: .ref 1 :: zst) (W_Row rn rl rp rs rm rd ro) bc bs Q := z_iast hd rfl h0 h1 ⟨by omega, by omega⟩ kk
theorem al_Row_2 {a : Int} (hd : decode y.2.1 pc = .ok (.iaload, 1)) (h0 : 0 ≤ a) (h1 : a < 20) (kk : SJ g y d (pc + 1) L (.int (ii (rm a)) :: zst) (W_Row rn rl rp rs rm rd ro) bc bs Q) : SJ g y d pc L (.int (ii a) :: .ref 2 :: zst) (W_Row rn rl rp rs rm rd ro) bc bs Q := z_iald hd rfl h0 h1 ⟨by omega, by omega⟩ kk
theorem as_Row_2 {a v : Int} (hd : decode y.2.1 pc = .ok (.iastore, 1)) (h0 : 0 ≤ a) (h1 : a < 20) (kk : SJ g y d (pc + 1) L zst (W_Row rn rl rp rs (up rm a v) rd ro) bc bs Q) : SJ g y d pc L (.int (ii v) :: .int (ii a) :: .ref 2 :: zst) (W_Row rn rl rp rs rm rd ro) bc bs Q := z_iast hd rfl h0 h1 ⟨by omega, by omega⟩ kk
theorem al_Row_3 {a : Int} (hd : decode y.2.1 pc = .ok (.iaload, 1)) (h0 : 0 ≤ a) (h1 : a < 20) (kk : SJ g y d (pc + 1) L (.int (ii (rd a)) :: zst) (W_Row rn rl rp rs rm rd ro) bc bs Q) : SJ g y d pc L (.int (ii a) :: .ref 3 :: zst) (W_Row rn rl rp rs rm rd ro) bc bs Q := z_iald hd rfl h0 h1 ⟨by omega, by omega⟩ kk
theorem as_Row_3 {a v : Int} (hd : decode y.2.1 pc = .ok (.iastore, 1)) (h0 : 0 ≤ a) (h1 : a < 20) (kk : SJ g y d (pc + 1) L zst (W_Row rn rl rp rs rm (up rd a v) ro) bc bs Q) : SJ g y d pc L (.int (ii v) :: .int (ii a) :: .ref 3 :: zst) (W_Row rn rl rp rs rm rd ro) bc bs Q := z_iast hd rfl h0 h1 ⟨by omega, by omega⟩ kk
theorem al_Row_4 {a : Int} (hd : decode y.2.1 pc = .ok (.iaload, 1)) (h0 : 0 ≤ a) (h1 : a < 20) (kk : SJ g y d (pc + 1) L (.int (ii (ro a)) :: zst) (W_Row rn rl rp rs rm rd ro) bc bs Q) : SJ g y d pc L (.int (ii a) :: .ref 4 :: zst) (W_Row rn rl rp rs rm rd ro) bc bs Q := z_iald hd rfl h0 h1 ⟨by omega, by omega⟩ kk
theorem as_Row_4 {a v : Int} (hd : decode y.2.1 pc = .ok (.iastore, 1)) (h0 : 0 ≤ a) (h1 : a < 20) (kk : SJ g y d (pc + 1) L zst (W_Row rn rl rp rs rm rd (up ro a v)) bc bs Q) : SJ g y d pc L (.int (ii v) :: .int (ii a) :: .ref 4 :: zst) (W_Row rn rl rp rs rm rd ro) bc bs Q := z_iast hd rfl h0 h1 ⟨by omega, by omega⟩ kk
end WR_Row
def W_R2 (rn : Int) (rl : Int) (rp : Int) (qn : Int) (ql : Int) (qp : Int) (rs : Int → Int) (rm : Int → Int) (rd : Int → Int) (ro : Int → Int) (qs : Int → Int) (qm : Int → Int) (qd : Int → Int) (qo : Int → Int) : List xM := [.inr (5, [.ref 1, .int (ii rn), .ref 2, .ref 3, .ref 4, .int (ii rl), .int (ii rp)]), .inl (0, 20, .inl (ia (rs))), .inl (0, 20, .inl (ia (rm))), .inl (0, 20, .inl (ia (rd))), .inl (0, 20, .inl (ia (ro))), .inr (5, [.ref 6, .int (ii qn), .ref 7, .ref 8, .ref 9, .int (ii ql), .int (ii qp)]), .inl (0, 20, .inl (ia (qs))), .inl (0, 20, .inl (ia (qm))), .inl (0, 20, .inl (ia (qd))), .inl (0, 20, .inl (ia (qo)))]
section WR_R2
variable {g : Bool} {y : xY} {d pc : Nat} {L : List (Option Value)} {zst : List Value} {bc bs : Nat} {Q : List xM → Option Value → Prop} {rn rl rp qn ql qp : Int} {rs rm rd ro qs qm qd qo : Int → Int} 
theorem gf_R2_0_0 {idx : Nat} (hf : x_fs y.1.cls idx 5 0) (hd : decode y.2.1 pc = .ok (.getfield idx, 3)) (kk : SJ g y d (pc + 3) L (.ref 1 :: zst) (W_R2 rn rl rp qn ql qp rs rm rd ro qs qm qd qo) bc bs Q) : SJ g y d pc L (.ref 0 :: zst) (W_R2 rn rl rp qn ql qp rs rm rd ro qs qm qd qo) bc bs Q := j_getf hd hf rfl rfl kk
theorem gf_R2_0_1 {idx : Nat} (hf : x_fs y.1.cls idx 5 1) (hd : decode y.2.1 pc = .ok (.getfield idx, 3)) (kk : SJ g y d (pc + 3) L (.int (ii rn) :: zst) (W_R2 rn rl rp qn ql qp rs rm rd ro qs qm qd qo) bc bs Q) : SJ g y d pc L (.ref 0 :: zst) (W_R2 rn rl rp qn ql qp rs rm rd ro qs qm qd qo) bc bs Q := j_getf hd hf rfl rfl kk
theorem pf_R2_0_1 {idx : Nat} {v : Int} (hf : x_fs y.1.cls idx 5 1) (hd : decode y.2.1 pc = .ok (.putfield idx, 3)) (kk : SJ g y d (pc + 3) L zst (W_R2 v rl rp qn ql qp rs rm rd ro qs qm qd qo) bc bs Q) : SJ g y d pc L (.int (ii v) :: .ref 0 :: zst) (W_R2 rn rl rp qn ql qp rs rm rd ro qs qm qd qo) bc bs Q := j_putf (ci := 5) (k := 1) hd hf ⟨_, rfl, rfl, rfl⟩ rfl (Nat.le_of_ble_eq_true rfl) x_okI kk
theorem gf_R2_0_2 {idx : Nat} (hf : x_fs y.1.cls idx 5 2) (hd : decode y.2.1 pc = .ok (.getfield idx, 3)) (kk : SJ g y d (pc + 3) L (.ref 2 :: zst) (W_R2 rn rl rp qn ql qp rs rm rd ro qs qm qd qo) bc bs Q) : SJ g y d pc L (.ref 0 :: zst) (W_R2 rn rl rp qn ql qp rs rm rd ro qs qm qd qo) bc bs Q := j_getf hd hf rfl rfl kk
theorem gf_R2_0_3 {idx : Nat} (hf : x_fs y.1.cls idx 5 3) (hd : decode y.2.1 pc = .ok (.getfield idx, 3)) (kk : SJ g y d (pc + 3) L (.ref 3 :: zst) (W_R2 rn rl rp qn ql qp rs rm rd ro qs qm qd qo) bc bs Q) : SJ g y d pc L (.ref 0 :: zst) (W_R2 rn rl rp qn ql qp rs rm rd ro qs qm qd qo) bc bs Q := j_getf hd hf rfl rfl kk
theorem gf_R2_0_4 {idx : Nat} (hf : x_fs y.1.cls idx 5 4) (hd : decode y.2.1 pc = .ok (.getfield idx, 3)) (kk : SJ g y d (pc + 3) L (.ref 4 :: zst) (W_R2 rn rl rp qn ql qp rs rm rd ro qs qm qd qo) bc bs Q) : SJ g y d pc L (.ref 0 :: zst) (W_R2 rn rl rp qn ql qp rs rm rd ro qs qm qd qo) bc bs Q := j_getf hd hf rfl rfl kk
theorem gf_R2_0_5 {idx : Nat} (hf : x_fs y.1.cls idx 5 5) (hd : decode y.2.1 pc = .ok (.getfield idx, 3)) (kk : SJ g y d (pc + 3) L (.int (ii rl) :: zst) (W_R2 rn rl rp qn ql qp rs rm rd ro qs qm qd qo) bc bs Q) : SJ g y d pc L (.ref 0 :: zst) (W_R2 rn rl rp qn ql qp rs rm rd ro qs qm qd qo) bc bs Q := j_getf hd hf rfl rfl kk
theorem pf_R2_0_5 {idx : Nat} {v : Int} (hf : x_fs y.1.cls idx 5 5) (hd : decode y.2.1 pc = .ok (.putfield idx, 3)) (kk : SJ g y d (pc + 3) L zst (W_R2 rn v rp qn ql qp rs rm rd ro qs qm qd qo) bc bs Q) : SJ g y d pc L (.int (ii v) :: .ref 0 :: zst) (W_R2 rn rl rp qn ql qp rs rm rd ro qs qm qd qo) bc bs Q := j_putf (ci := 5) (k := 5) hd hf ⟨_, rfl, rfl, rfl⟩ rfl (Nat.le_of_ble_eq_true rfl) x_okI kk
theorem gf_R2_0_6 {idx : Nat} (hf : x_fs y.1.cls idx 5 6) (hd : decode y.2.1 pc = .ok (.getfield idx, 3)) (kk : SJ g y d (pc + 3) L (.int (ii rp) :: zst) (W_R2 rn rl rp qn ql qp rs rm rd ro qs qm qd qo) bc bs Q) : SJ g y d pc L (.ref 0 :: zst) (W_R2 rn rl rp qn ql qp rs rm rd ro qs qm qd qo) bc bs Q := j_getf hd hf rfl rfl kk
theorem pf_R2_0_6 {idx : Nat} {v : Int} (hf : x_fs y.1.cls idx 5 6) (hd : decode y.2.1 pc = .ok (.putfield idx, 3)) (hv : v = 0 ∨ v = 1) (kk : SJ g y d (pc + 3) L zst (W_R2 rn rl v qn ql qp rs rm rd ro qs qm qd qo) bc bs Q) : SJ g y d pc L (.int (ii v) :: .ref 0 :: zst) (W_R2 rn rl rp qn ql qp rs rm rd ro qs qm qd qo) bc bs Q := j_putf (ci := 5) (k := 6) hd hf ⟨_, rfl, rfl, rfl⟩ rfl (Nat.le_of_ble_eq_true rfl) (by rcases hv with rfl | rfl; exact x_ok0; exact x_ok1) kk
theorem al_R2_1 {a : Int} (hd : decode y.2.1 pc = .ok (.iaload, 1)) (h0 : 0 ≤ a) (h1 : a < 20) (kk : SJ g y d (pc + 1) L (.int (ii (rs a)) :: zst) (W_R2 rn rl rp qn ql qp rs rm rd ro qs qm qd qo) bc bs Q) : SJ g y d pc L (.int (ii a) :: .ref 1 :: zst) (W_R2 rn rl rp qn ql qp rs rm rd ro qs qm qd qo) bc bs Q := z_iald hd rfl h0 h1 ⟨by omega, by omega⟩ kk
theorem as_R2_1 {a v : Int} (hd : decode y.2.1 pc = .ok (.iastore, 1)) (h0 : 0 ≤ a) (h1 : a < 20) (kk : SJ g y d (pc + 1) L zst (W_R2 rn rl rp qn ql qp (up rs a v) rm rd ro qs qm qd qo) bc bs Q) : SJ g y d pc L (.int (ii v) :: .int (ii a) :: .ref 1 :: zst) (W_R2 rn rl rp qn ql qp rs rm rd ro qs qm qd qo) bc bs Q := z_iast hd rfl h0 h1 ⟨by omega, by omega⟩ kk
theorem al_R2_2 {a : Int} (hd : decode y.2.1 pc = .ok (.iaload, 1)) (h0 : 0 ≤ a) (h1 : a < 20) (kk : SJ g y d (pc + 1) L (.int (ii (rm a)) :: zst) (W_R2 rn rl rp qn ql qp rs rm rd ro qs qm qd qo) bc bs Q) : SJ g y d pc L (.int (ii a) :: .ref 2 :: zst) (W_R2 rn rl rp qn ql qp rs rm rd ro qs qm qd qo) bc bs Q := z_iald hd rfl h0 h1 ⟨by omega, by omega⟩ kk
theorem as_R2_2 {a v : Int} (hd : decode y.2.1 pc = .ok (.iastore, 1)) (h0 : 0 ≤ a) (h1 : a < 20) (kk : SJ g y d (pc + 1) L zst (W_R2 rn rl rp qn ql qp rs (up rm a v) rd ro qs qm qd qo) bc bs Q) : SJ g y d pc L (.int (ii v) :: .int (ii a) :: .ref 2 :: zst) (W_R2 rn rl rp qn ql qp rs rm rd ro qs qm qd qo) bc bs Q := z_iast hd rfl h0 h1 ⟨by omega, by omega⟩ kk
theorem al_R2_3 {a : Int} (hd : decode y.2.1 pc = .ok (.iaload, 1)) (h0 : 0 ≤ a) (h1 : a < 20) (kk : SJ g y d (pc + 1) L (.int (ii (rd a)) :: zst) (W_R2 rn rl rp qn ql qp rs rm rd ro qs qm qd qo) bc bs Q) : SJ g y d pc L (.int (ii a) :: .ref 3 :: zst) (W_R2 rn rl rp qn ql qp rs rm rd ro qs qm qd qo) bc bs Q := z_iald hd rfl h0 h1 ⟨by omega, by omega⟩ kk
theorem as_R2_3 {a v : Int} (hd : decode y.2.1 pc = .ok (.iastore, 1)) (h0 : 0 ≤ a) (h1 : a < 20) (kk : SJ g y d (pc + 1) L zst (W_R2 rn rl rp qn ql qp rs rm (up rd a v) ro qs qm qd qo) bc bs Q) : SJ g y d pc L (.int (ii v) :: .int (ii a) :: .ref 3 :: zst) (W_R2 rn rl rp qn ql qp rs rm rd ro qs qm qd qo) bc bs Q := z_iast hd rfl h0 h1 ⟨by omega, by omega⟩ kk
theorem al_R2_4 {a : Int} (hd : decode y.2.1 pc = .ok (.iaload, 1)) (h0 : 0 ≤ a) (h1 : a < 20) (kk : SJ g y d (pc + 1) L (.int (ii (ro a)) :: zst) (W_R2 rn rl rp qn ql qp rs rm rd ro qs qm qd qo) bc bs Q) : SJ g y d pc L (.int (ii a) :: .ref 4 :: zst) (W_R2 rn rl rp qn ql qp rs rm rd ro qs qm qd qo) bc bs Q := z_iald hd rfl h0 h1 ⟨by omega, by omega⟩ kk
theorem as_R2_4 {a v : Int} (hd : decode y.2.1 pc = .ok (.iastore, 1)) (h0 : 0 ≤ a) (h1 : a < 20) (kk : SJ g y d (pc + 1) L zst (W_R2 rn rl rp qn ql qp rs rm rd (up ro a v) qs qm qd qo) bc bs Q) : SJ g y d pc L (.int (ii v) :: .int (ii a) :: .ref 4 :: zst) (W_R2 rn rl rp qn ql qp rs rm rd ro qs qm qd qo) bc bs Q := z_iast hd rfl h0 h1 ⟨by omega, by omega⟩ kk
theorem gf_R2_5_0 {idx : Nat} (hf : x_fs y.1.cls idx 5 0) (hd : decode y.2.1 pc = .ok (.getfield idx, 3)) (kk : SJ g y d (pc + 3) L (.ref 6 :: zst) (W_R2 rn rl rp qn ql qp rs rm rd ro qs qm qd qo) bc bs Q) : SJ g y d pc L (.ref 5 :: zst) (W_R2 rn rl rp qn ql qp rs rm rd ro qs qm qd qo) bc bs Q := j_getf hd hf rfl rfl kk
theorem gf_R2_5_1 {idx : Nat} (hf : x_fs y.1.cls idx 5 1) (hd : decode y.2.1 pc = .ok (.getfield idx, 3)) (kk : SJ g y d (pc + 3) L (.int (ii qn) :: zst) (W_R2 rn rl rp qn ql qp rs rm rd ro qs qm qd qo) bc bs Q) : SJ g y d pc L (.ref 5 :: zst) (W_R2 rn rl rp qn ql qp rs rm rd ro qs qm qd qo) bc bs Q := j_getf hd hf rfl rfl kk
theorem pf_R2_5_1 {idx : Nat} {v : Int} (hf : x_fs y.1.cls idx 5 1) (hd : decode y.2.1 pc = .ok (.putfield idx, 3)) (kk : SJ g y d (pc + 3) L zst (W_R2 rn rl rp v ql qp rs rm rd ro qs qm qd qo) bc bs Q) : SJ g y d pc L (.int (ii v) :: .ref 5 :: zst) (W_R2 rn rl rp qn ql qp rs rm rd ro qs qm qd qo) bc bs Q := j_putf (ci := 5) (k := 1) hd hf ⟨_, rfl, rfl, rfl⟩ rfl (Nat.le_of_ble_eq_true rfl) x_okI kk
theorem gf_R2_5_2 {idx : Nat} (hf : x_fs y.1.cls idx 5 2) (hd : decode y.2.1 pc = .ok (.getfield idx, 3)) (kk : SJ g y d (pc + 3) L (.ref 7 :: zst) (W_R2 rn rl rp qn ql qp rs rm rd ro qs qm qd qo) bc bs Q) : SJ g y d pc L (.ref 5 :: zst) (W_R2 rn rl rp qn ql qp rs rm rd ro qs qm qd qo) bc bs Q := j_getf hd hf rfl rfl kk
theorem gf_R2_5_3 {idx : Nat} (hf : x_fs y.1.cls idx 5 3) (hd : decode y.2.1 pc = .ok (.getfield idx, 3)) (kk : SJ g y d (pc + 3) L (.ref 8 :: zst) (W_R2 rn rl rp qn ql qp rs rm rd ro qs qm qd qo) bc bs Q) : SJ g y d pc L (.ref 5 :: zst) (W_R2 rn rl rp qn ql qp rs rm rd ro qs qm qd qo) bc bs Q := j_getf hd hf rfl rfl kk
theorem gf_R2_5_4 {idx : Nat} (hf : x_fs y.1.cls idx 5 4) (hd : decode y.2.1 pc = .ok (.getfield idx, 3)) (kk : SJ g y d (pc + 3) L (.ref 9 :: zst) (W_R2 rn rl rp qn ql qp rs rm rd ro qs qm qd qo) bc bs Q) : SJ g y d pc L (.ref 5 :: zst) (W_R2 rn rl rp qn ql qp rs rm rd ro qs qm qd qo) bc bs Q := j_getf hd hf rfl rfl kk
theorem gf_R2_5_5 {idx : Nat} (hf : x_fs y.1.cls idx 5 5) (hd : decode y.2.1 pc = .ok (.getfield idx, 3)) (kk : SJ g y d (pc + 3) L (.int (ii ql) :: zst) (W_R2 rn rl rp qn ql qp rs rm rd ro qs qm qd qo) bc bs Q) : SJ g y d pc L (.ref 5 :: zst) (W_R2 rn rl rp qn ql qp rs rm rd ro qs qm qd qo) bc bs Q := j_getf hd hf rfl rfl kk
theorem pf_R2_5_5 {idx : Nat} {v : Int} (hf : x_fs y.1.cls idx 5 5) (hd : decode y.2.1 pc = .ok (.putfield idx, 3)) (kk : SJ g y d (pc + 3) L zst (W_R2 rn rl rp qn v qp rs rm rd ro qs qm qd qo) bc bs Q) : SJ g y d pc L (.int (ii v) :: .ref 5 :: zst) (W_R2 rn rl rp qn ql qp rs rm rd ro qs qm qd qo) bc bs Q := j_putf (ci := 5) (k := 5) hd hf ⟨_, rfl, rfl, rfl⟩ rfl (Nat.le_of_ble_eq_true rfl) x_okI kk
theorem gf_R2_5_6 {idx : Nat} (hf : x_fs y.1.cls idx 5 6) (hd : decode y.2.1 pc = .ok (.getfield idx, 3)) (kk : SJ g y d (pc + 3) L (.int (ii qp) :: zst) (W_R2 rn rl rp qn ql qp rs rm rd ro qs qm qd qo) bc bs Q) : SJ g y d pc L (.ref 5 :: zst) (W_R2 rn rl rp qn ql qp rs rm rd ro qs qm qd qo) bc bs Q := j_getf hd hf rfl rfl kk
theorem pf_R2_5_6 {idx : Nat} {v : Int} (hf : x_fs y.1.cls idx 5 6) (hd : decode y.2.1 pc = .ok (.putfield idx, 3)) (hv : v = 0 ∨ v = 1) (kk : SJ g y d (pc + 3) L zst (W_R2 rn rl rp qn ql v rs rm rd ro qs qm qd qo) bc bs Q) : SJ g y d pc L (.int (ii v) :: .ref 5 :: zst) (W_R2 rn rl rp qn ql qp rs rm rd ro qs qm qd qo) bc bs Q := j_putf (ci := 5) (k := 6) hd hf ⟨_, rfl, rfl, rfl⟩ rfl (Nat.le_of_ble_eq_true rfl) (by rcases hv with rfl | rfl; exact x_ok0; exact x_ok1) kk
theorem al_R2_6 {a : Int} (hd : decode y.2.1 pc = .ok (.iaload, 1)) (h0 : 0 ≤ a) (h1 : a < 20) (kk : SJ g y d (pc + 1) L (.int (ii (qs a)) :: zst) (W_R2 rn rl rp qn ql qp rs rm rd ro qs qm qd qo) bc bs Q) : SJ g y d pc L (.int (ii a) :: .ref 6 :: zst) (W_R2 rn rl rp qn ql qp rs rm rd ro qs qm qd qo) bc bs Q := z_iald hd rfl h0 h1 ⟨by omega, by omega⟩ kk
theorem as_R2_6 {a v : Int} (hd : decode y.2.1 pc = .ok (.iastore, 1)) (h0 : 0 ≤ a) (h1 : a < 20) (kk : SJ g y d (pc + 1) L zst (W_R2 rn rl rp qn ql qp rs rm rd ro (up qs a v) qm qd qo) bc bs Q) : SJ g y d pc L (.int (ii v) :: .int (ii a) :: .ref 6 :: zst) (W_R2 rn rl rp qn ql qp rs rm rd ro qs qm qd qo) bc bs Q := z_iast hd rfl h0 h1 ⟨by omega, by omega⟩ kk
theorem al_R2_7 {a : Int} (hd : decode y.2.1 pc = .ok (.iaload, 1)) (h0 : 0 ≤ a) (h1 : a < 20) (kk : SJ g y d (pc + 1) L (.int (ii (qm a)) :: zst) (W_R2 rn rl rp qn ql qp rs rm rd ro qs qm qd qo) bc bs Q) : SJ g y d pc L (.int (ii a) :: .ref 7 :: zst) (W_R2 rn rl rp qn ql qp rs rm rd ro qs qm qd qo) bc bs Q := z_iald hd rfl h0 h1 ⟨by omega, by omega⟩ kk
theorem as_R2_7 {a v : Int} (hd : decode y.2.1 pc = .ok (.iastore, 1)) (h0 : 0 ≤ a) (h1 : a < 20) (kk : SJ g y d (pc + 1) L zst (W_R2 rn rl rp qn ql qp rs rm rd ro qs (up qm a v) qd qo) bc bs Q) : SJ g y d pc L (.int (ii v) :: .int (ii a) :: .ref 7 :: zst) (W_R2 rn rl rp qn ql qp rs rm rd ro qs qm qd qo) bc bs Q := z_iast hd rfl h0 h1 ⟨by omega, by omega⟩ kk
theorem al_R2_8 {a : Int} (hd : decode y.2.1 pc = .ok (.iaload, 1)) (h0 : 0 ≤ a) (h1 : a < 20) (kk : SJ g y d (pc + 1) L (.int (ii (qd a)) :: zst) (W_R2 rn rl rp qn ql qp rs rm rd ro qs qm qd qo) bc bs Q) : SJ g y d pc L (.int (ii a) :: .ref 8 :: zst) (W_R2 rn rl rp qn ql qp rs rm rd ro qs qm qd qo) bc bs Q := z_iald hd rfl h0 h1 ⟨by omega, by omega⟩ kk
theorem as_R2_8 {a v : Int} (hd : decode y.2.1 pc = .ok (.iastore, 1)) (h0 : 0 ≤ a) (h1 : a < 20) (kk : SJ g y d (pc + 1) L zst (W_R2 rn rl rp qn ql qp rs rm rd ro qs qm (up qd a v) qo) bc bs Q) : SJ g y d pc L (.int (ii v) :: .int (ii a) :: .ref 8 :: zst) (W_R2 rn rl rp qn ql qp rs rm rd ro qs qm qd qo) bc bs Q := z_iast hd rfl h0 h1 ⟨by omega, by omega⟩ kk
theorem al_R2_9 {a : Int} (hd : decode y.2.1 pc = .ok (.iaload, 1)) (h0 : 0 ≤ a) (h1 : a < 20) (kk : SJ g y d (pc + 1) L (.int (ii (qo a)) :: zst) (W_R2 rn rl rp qn ql qp rs rm rd ro qs qm qd qo) bc bs Q) : SJ g y d pc L (.int (ii a) :: .ref 9 :: zst) (W_R2 rn rl rp qn ql qp rs rm rd ro qs qm qd qo) bc bs Q := z_iald hd rfl h0 h1 ⟨by omega, by omega⟩ kk
theorem as_R2_9 {a v : Int} (hd : decode y.2.1 pc = .ok (.iastore, 1)) (h0 : 0 ≤ a) (h1 : a < 20) (kk : SJ g y d (pc + 1) L zst (W_R2 rn rl rp qn ql qp rs rm rd ro qs qm qd (up qo a v)) bc bs Q) : SJ g y d pc L (.int (ii v) :: .int (ii a) :: .ref 9 :: zst) (W_R2 rn rl rp qn ql qp rs rm rd ro qs qm qd qo) bc bs Q := z_iast hd rfl h0 h1 ⟨by omega, by omega⟩ kk
end WR_R2
theorem t_Row_opens {g : Bool} {d : Nat} {Q : List xM → Option Value → Prop} {mem : List xM} {s : Int} (r1 : R32 s) (ht : s < 3 → Q mem (some (.int (ii 1)))) (hf : ¬ (s < 3) → Q mem (some (.int (ii 0)))) : CT g m_Row_opens d [.int (ii s)] mem 0 0 Q := by
  refine CT.of (by decide) (Nat.le_of_ble_eq_true rfl) ?_
  show SJ _ _ _ _ [some (.int (ii s))] [] _ _ _ _
  refine j_iload_n d_Row_opens_0 rfl ?_
  refine z_iconst d_Row_opens_1 ?_
  refine z_icmp_ge (t := 9) d_Row_opens_2 (by decide) (by first | omega | exact hw _ | exact hx _ _ | assumption) (by first | omega | exact hw _ | exact hx _ _ | assumption) (fun h2 => ?_) (fun h2 => ?_)
  · refine z_iconst d_Row_opens_9 ?_
    exact z_zreturn rfl (Or.inl rfl) d_Row_opens_10 (hf (by first | omega | simp_all))
  · refine z_iconst d_Row_opens_5 ?_
    refine j_goto (t := 10) d_Row_opens_6 (by decide) ?_
    exact z_zreturn rfl (Or.inr rfl) d_Row_opens_10 (ht (by first | omega | simp_all))
theorem t_Row_closes {g : Bool} {d : Nat} {Q : List xM → Option Value → Prop} {mem : List xM} {s : Int} (r1 : R32 s) (ht : 3 ≤ s ∧ s ≤ 5 → Q mem (some (.int (ii 1)))) (hf : ¬ (3 ≤ s ∧ s ≤ 5) → Q mem (some (.int (ii 0)))) : CT g m_Row_closes d [.int (ii s)] mem 0 0 Q := by
  refine CT.of (by decide) (Nat.le_of_ble_eq_true rfl) ?_
  show SJ _ _ _ _ [some (.int (ii s))] [] _ _ _ _
  refine j_iload_n d_Row_closes_0 rfl ?_
  refine z_iconst d_Row_closes_1 ?_
  refine z_icmp_lt (t := 15) d_Row_closes_2 (by decide) (by first | omega | exact hw _ | exact hx _ _ | assumption) (by first | omega | exact hw _ | exact hx _ _ | assumption) (fun h2 => ?_) (fun h2 => ?_)
  · refine z_iconst d_Row_closes_15 ?_
    exact z_zreturn rfl (Or.inl rfl) d_Row_closes_16 (hf (by first | omega | simp_all))
  · refine j_iload_n d_Row_closes_5 rfl ?_
    refine z_bipush d_Row_closes_6 (by decide) ?_
    refine z_icmp_ge (t := 15) d_Row_closes_8 (by decide) (by first | omega | exact hw _ | exact hx _ _ | assumption) (by first | omega | exact hw _ | exact hx _ _ | assumption) (fun h8 => ?_) (fun h8 => ?_)
    · refine z_iconst d_Row_closes_15 ?_
      exact z_zreturn rfl (Or.inl rfl) d_Row_closes_16 (hf (by first | omega | simp_all))
    · refine z_iconst d_Row_closes_11 ?_
      refine j_goto (t := 16) d_Row_closes_12 (by decide) ?_
      exact z_zreturn rfl (Or.inr rfl) d_Row_closes_16 (ht (by first | omega | simp_all))
theorem t_Row_isName {g : Bool} {d : Nat} {Q : List xM → Option Value → Prop} {mem : List xM} {s : Int} (r1 : R32 s) (ht : 6 ≤ s → Q mem (some (.int (ii 1)))) (hf : ¬ (6 ≤ s) → Q mem (some (.int (ii 0)))) : CT g m_Row_isName d [.int (ii s)] mem 0 0 Q := by
  refine CT.of (by decide) (Nat.le_of_ble_eq_true rfl) ?_
  show SJ _ _ _ _ [some (.int (ii s))] [] _ _ _ _
  refine j_iload_n d_Row_isName_0 rfl ?_
  refine z_bipush d_Row_isName_1 (by decide) ?_
  refine z_icmp_lt (t := 10) d_Row_isName_3 (by decide) (by first | omega | exact hw _ | exact hx _ _ | assumption) (by first | omega | exact hw _ | exact hx _ _ | assumption) (fun h3 => ?_) (fun h3 => ?_)
  · refine z_iconst d_Row_isName_10 ?_
    exact z_zreturn rfl (Or.inl rfl) d_Row_isName_11 (hf (by first | omega | simp_all))
  · refine z_iconst d_Row_isName_6 ?_
    refine j_goto (t := 11) d_Row_isName_7 (by decide) ?_
    exact z_zreturn rfl (Or.inr rfl) d_Row_isName_11 (ht (by first | omega | simp_all))
theorem t_Row_kindOf {g : Bool} {d : Nat} {Q : List xM → Option Value → Prop} {mem : List xM} {s : Int} (r1 : R32 s) (hQ : Q mem (some (.int (ii (kd s))))) : CT g m_Row_kindOf d [.int (ii s)] mem 0 0 Q := by
  refine CT.of (by decide) (Nat.le_of_ble_eq_true rfl) ?_
  show SJ _ _ _ _ [some (.int (ii s))] [] _ _ _ _
  refine j_iload_n d_Row_kindOf_0 rfl ?_
  refine z_bipush d_Row_kindOf_1 (by decide) ?_
  refine z_icmp_ge (t := 12) d_Row_kindOf_3 (by decide) (by first | omega | exact hw _ | exact hx _ _ | assumption) (by first | omega | exact hw _ | exact hx _ _ | assumption) (fun h3 => ?_) (fun h3 => ?_)
  · refine z_iconst d_Row_kindOf_12 ?_
    exact z_iret rfl d_Row_kindOf_13 (by unfold kd; first | rw [if_pos (by omega)] | rw [if_neg (by omega)]) hQ
  · refine j_iload_n d_Row_kindOf_6 rfl ?_
    refine z_iconst d_Row_kindOf_7 ?_
    refine z_irem d_Row_kindOf_8 (by first | omega | exact hw _ | exact hx _ _ | assumption) (by first | omega | exact hw _ | exact hx _ _ | assumption) (by decide) ?_
    refine j_goto (t := 13) d_Row_kindOf_9 (by decide) ?_
    exact z_iret rfl d_Row_kindOf_13 (by unfold kd; first | rw [if_pos (by omega)] | rw [if_neg (by omega)]) hQ
theorem t_Row_personOf {g : Bool} {d : Nat} {Q : List xM → Option Value → Prop} {mem : List xM} {s : Int} (r1 : R32 s) (hQ : Q mem (some (.int (ii (if 6 ≤ s then s - 6 else -1))))) : CT g m_Row_personOf d [.int (ii s)] mem 0 0 Q := by
  refine CT.of (by decide) (Nat.le_of_ble_eq_true rfl) ?_
  show SJ _ _ _ _ [some (.int (ii s))] [] _ _ _ _
  refine j_iload_n d_Row_personOf_0 rfl ?_
  refine z_bipush d_Row_personOf_1 (by decide) ?_
  refine z_icmp_ge (t := 10) d_Row_personOf_3 (by decide) (by first | omega | exact hw _ | exact hx _ _ | assumption) (by first | omega | exact hw _ | exact hx _ _ | assumption) (fun h3 => ?_) (fun h3 => ?_)
  · refine j_iload_n d_Row_personOf_10 rfl ?_
    refine z_bipush d_Row_personOf_11 (by decide) ?_
    refine z_isub d_Row_personOf_13 ?_
    exact z_iret rfl d_Row_personOf_14 (by first | rw [if_pos (by omega)] | rw [if_neg (by omega)]) hQ
  · refine z_iconst d_Row_personOf_6 ?_
    refine j_goto (t := 14) d_Row_personOf_7 (by decide) ?_
    exact z_iret rfl d_Row_personOf_14 (by first | rw [if_pos (by omega)] | rw [if_neg (by omega)]) hQ
theorem t_Row_has {g : Bool} {d : Nat} {Q : List xM → Option Value → Prop} {rn rl rp : Int} {rs rm rd ro : Int → Int} {p : Int} (r1 : R32 p) (r2 : R32 rn) (ht : 0 ≤ p ∧ p < rn → Q (W_Row rn rl rp rs rm rd ro) (some (.int (ii 1)))) (hf : ¬ (0 ≤ p ∧ p < rn) → Q (W_Row rn rl rp rs rm rd ro) (some (.int (ii 0)))) : CT g m_Row_has d [.ref 0, .int (ii p)] (W_Row rn rl rp rs rm rd ro) 0 0 Q := by
  refine CT.of (by decide) (Nat.le_of_ble_eq_true rfl) ?_
  show SJ _ _ _ _ [some (.ref 0), some (.int (ii p))] [] _ _ _ _
  refine j_iload_n d_Row_has_0 rfl ?_
  refine z_if_lt (t := 16) d_Row_has_1 (by decide) (by first | omega | exact hw _ | exact hx _ _ | assumption) (fun h1 => ?_) (fun h1 => ?_)
  · refine z_iconst d_Row_has_16 ?_
    exact z_zreturn rfl (Or.inl rfl) d_Row_has_17 (hf (by first | omega | simp_all))
  · refine j_iload_n d_Row_has_4 rfl ?_
    refine j_aload_n d_Row_has_5 rfl ?_
    refine gf_Row_0_1 f_Row_15 d_Row_has_6 ?_
    refine z_icmp_ge (t := 16) d_Row_has_9 (by decide) (by first | omega | exact hw _ | exact hx _ _ | assumption) (by first | omega | exact hw _ | exact hx _ _ | assumption) (fun h9 => ?_) (fun h9 => ?_)
    · refine z_iconst d_Row_has_16 ?_
      exact z_zreturn rfl (Or.inl rfl) d_Row_has_17 (hf (by first | omega | simp_all))
    · refine z_iconst d_Row_has_12 ?_
      refine j_goto (t := 17) d_Row_has_13 (by decide) ?_
      exact z_zreturn rfl (Or.inr rfl) d_Row_has_17 (ht (by first | omega | simp_all))
theorem t_Row_insert {g : Bool} {d : Nat} {Q : List xM → Option Value → Prop} {rn rl rp : Int} {rs rm rd ro : Int → Int} {s p : Int} (r1 : R32 p) (h0 : 0 ≤ rn) (h1 : rn ≤ 20) (ht : rn < 20 ∧ 0 ≤ p ∧ p ≤ rn → Q (W_Row (rn + 1) rl 0 (up (cpy rs rs p (p + 1) (rn - p)) p s) rm rd ro) none) (hf : ¬ (rn < 20 ∧ 0 ≤ p ∧ p ≤ rn) → Q (W_Row rn rl rp rs rm rd ro) none) : CT g m_Row_insert (d + 1) [.ref 0, .int (ii s), .int (ii p)] (W_Row rn rl rp rs rm rd ro) 0 0 Q := by
  refine CT.of (by decide) (Nat.le_of_ble_eq_true rfl) ?_
  show SJ _ _ _ _ [some (.ref 0), some (.int (ii s)), some (.int (ii p))] [] _ _ _ _
  refine j_aload_n d_Row_insert_0 rfl ?_
  refine gf_Row_0_1 f_Row_15 d_Row_insert_1 ?_
  refine z_bipush d_Row_insert_4 (by decide) ?_
  refine z_icmp_ge (t := 21) d_Row_insert_6 (by decide) (by first | omega | exact hw _ | exact hx _ _ | assumption) (by first | omega | exact hw _ | exact hx _ _ | assumption) (fun h6 => ?_) (fun h6 => ?_)
  · exact j_return rfl d_Row_insert_21 (hf (by omega))
  · refine j_iload_n d_Row_insert_9 rfl ?_
    refine z_if_lt (t := 21) d_Row_insert_10 (by decide) (by first | omega | exact hw _ | exact hx _ _ | assumption) (fun h10 => ?_) (fun h10 => ?_)
    · exact j_return rfl d_Row_insert_21 (hf (by omega))
    · refine j_iload_n d_Row_insert_13 rfl ?_
      refine j_aload_n d_Row_insert_14 rfl ?_
      refine gf_Row_0_1 f_Row_15 d_Row_insert_15 ?_
      refine z_icmp_le (t := 22) d_Row_insert_18 (by decide) (by first | omega | exact hw _ | exact hx _ _ | assumption) (by first | omega | exact hw _ | exact hx _ _ | assumption) (fun h18 => ?_) (fun h18 => ?_)
      · refine j_aload_n d_Row_insert_22 rfl ?_
        refine gf_Row_0_0 f_Row_9 d_Row_insert_23 ?_
        refine j_iload_n d_Row_insert_26 rfl ?_
        refine j_aload_n d_Row_insert_27 rfl ?_
        refine gf_Row_0_0 f_Row_9 d_Row_insert_28 ?_
        refine j_iload_n d_Row_insert_31 rfl ?_
        refine z_iconst d_Row_insert_32 ?_
        refine z_iadd d_Row_insert_33 ?_
        refine j_aload_n d_Row_insert_34 rfl ?_
        refine gf_Row_0_1 f_Row_15 d_Row_insert_35 ?_
        refine j_iload_n d_Row_insert_38 rfl ?_
        refine z_isub d_Row_insert_39 ?_
        refine z_copyI d_Row_insert_40 ac_Row_35 rfl rfl (by omega) (by omega) (by omega) (by omega) (by omega) (by omega) (by omega) (by omega) (Nat.le_of_ble_eq_true rfl) ?_
        show SJ _ _ _ _ _ _ (W_Row rn rl rp (cpy rs rs p (p + 1) (rn - p)) rm rd ro) _ _ _
        refine j_aload_n d_Row_insert_43 rfl ?_
        refine gf_Row_0_0 f_Row_9 d_Row_insert_44 ?_
        refine j_iload_n d_Row_insert_47 rfl ?_
        refine j_iload_n d_Row_insert_48 rfl ?_
        refine as_Row_1 d_Row_insert_49 (by omega) (by omega) ?_
        refine j_aload_n d_Row_insert_50 rfl ?_
        refine j_dup d_Row_insert_51 rfl ?_
        refine gf_Row_0_1 f_Row_15 d_Row_insert_52 ?_
        refine z_iconst d_Row_insert_55 ?_
        refine z_iadd d_Row_insert_56 ?_
        refine pf_Row_0_1 f_Row_15 d_Row_insert_57 ?_
        refine j_aload_n d_Row_insert_60 rfl ?_
        refine z_iconst d_Row_insert_61 ?_
        refine pf_Row_0_6 f_Row_31 d_Row_insert_62 (by first | exact Or.inl rfl | exact Or.inr rfl | assumption | omega) ?_
        exact j_return rfl d_Row_insert_65 (ht (by omega))
      · exact j_return rfl d_Row_insert_21 (hf (by omega))
theorem t_Row_remove {g : Bool} {d : Nat} {Q : List xM → Option Value → Prop} {rn rl rp : Int} {rs rm rd ro : Int → Int} {p : Int} (r1 : R32 p) (h0 : 0 ≤ rn) (h1 : rn ≤ 20) (ht : 0 ≤ p ∧ p < rn → Q (W_Row (rn - 1) rl 0 (cpy rs rs (p + 1) p (rn - p - 1)) rm rd ro) none) (hf : ¬ (0 ≤ p ∧ p < rn) → Q (W_Row rn rl rp rs rm rd ro) none) : CT g m_Row_remove (d + 1) [.ref 0, .int (ii p)] (W_Row rn rl rp rs rm rd ro) 0 0 Q := by
  refine CT.of (by decide) (Nat.le_of_ble_eq_true rfl) ?_
  show SJ _ _ _ _ [some (.ref 0), some (.int (ii p))] [] _ _ _ _
  refine j_aload_n d_Row_remove_0 rfl ?_
  refine j_iload_n d_Row_remove_1 rfl ?_
  refine v_call1 d_Row_remove_2 c_Row_41 rfl ⟨_, rfl, rfl⟩ (Nat.le_of_ble_eq_true rfl) (t_Row_has (by first | omega | exact hw _ | exact hx _ _ | assumption) (by first | omega | exact hw _ | exact hx _ _ | assumption) (fun h2 => ?_) (fun h2 => ?_))
  · refine z_if_ne (t := 9) d_Row_remove_5 (by decide) (by first | omega | exact hw _ | exact hx _ _ | assumption) (fun _ => ?_) (fun h => absurd h (by decide))
    refine j_aload_n d_Row_remove_9 rfl ?_
    refine gf_Row_0_0 f_Row_9 d_Row_remove_10 ?_
    refine j_iload_n d_Row_remove_13 rfl ?_
    refine z_iconst d_Row_remove_14 ?_
    refine z_iadd d_Row_remove_15 ?_
    refine j_aload_n d_Row_remove_16 rfl ?_
    refine gf_Row_0_0 f_Row_9 d_Row_remove_17 ?_
    refine j_iload_n d_Row_remove_20 rfl ?_
    refine j_aload_n d_Row_remove_21 rfl ?_
    refine gf_Row_0_1 f_Row_15 d_Row_remove_22 ?_
    refine j_iload_n d_Row_remove_25 rfl ?_
    refine z_isub d_Row_remove_26 ?_
    refine z_iconst d_Row_remove_27 ?_
    refine z_isub d_Row_remove_28 ?_
    refine z_copyI d_Row_remove_29 ac_Row_35 rfl rfl (by omega) (by omega) (by omega) (by omega) (by omega) (by omega) (by omega) (by omega) (Nat.le_of_ble_eq_true rfl) ?_
    show SJ _ _ _ _ _ _ (W_Row rn rl rp (cpy rs rs (p + 1) p (rn - p - 1)) rm rd ro) _ _ _
    refine j_aload_n d_Row_remove_32 rfl ?_
    refine j_dup d_Row_remove_33 rfl ?_
    refine gf_Row_0_1 f_Row_15 d_Row_remove_34 ?_
    refine z_iconst d_Row_remove_37 ?_
    refine z_isub d_Row_remove_38 ?_
    refine pf_Row_0_1 f_Row_15 d_Row_remove_39 ?_
    refine j_aload_n d_Row_remove_42 rfl ?_
    refine z_iconst d_Row_remove_43 ?_
    refine pf_Row_0_6 f_Row_31 d_Row_remove_44 (by first | exact Or.inl rfl | exact Or.inr rfl | assumption | omega) ?_
    exact j_return rfl d_Row_remove_47 (ht (by omega))
  · refine z_if_ne (t := 9) d_Row_remove_5 (by decide) (by first | omega | exact hw _ | exact hx _ _ | assumption) (fun h => absurd h (by decide)) (fun _ => ?_)
    exact j_return rfl d_Row_remove_8 (hf (by omega))
theorem t_Row_replace {g : Bool} {d : Nat} {Q : List xM → Option Value → Prop} {rn rl rp : Int} {rs rm rd ro : Int → Int} {p s : Int} (r1 : R32 p) (h0 : 0 ≤ rn) (h1 : rn ≤ 20) (ht : 0 ≤ p ∧ p < rn → Q (W_Row rn rl 0 (up rs p s) rm rd ro) none) (hf : ¬ (0 ≤ p ∧ p < rn) → Q (W_Row rn rl rp rs rm rd ro) none) : CT g m_Row_replace (d + 1) [.ref 0, .int (ii p), .int (ii s)] (W_Row rn rl rp rs rm rd ro) 0 0 Q := by
  refine CT.of (by decide) (Nat.le_of_ble_eq_true rfl) ?_
  show SJ _ _ _ _ [some (.ref 0), some (.int (ii p)), some (.int (ii s))] [] _ _ _ _
  refine j_aload_n d_Row_replace_0 rfl ?_
  refine j_iload_n d_Row_replace_1 rfl ?_
  refine v_call1 d_Row_replace_2 c_Row_41 rfl ⟨_, rfl, rfl⟩ (Nat.le_of_ble_eq_true rfl) (t_Row_has (by first | omega | exact hw _ | exact hx _ _ | assumption) (by first | omega | exact hw _ | exact hx _ _ | assumption) (fun h2 => ?_) (fun h2 => ?_))
  · refine z_if_eq (t := 20) d_Row_replace_5 (by decide) (by first | omega | exact hw _ | exact hx _ _ | assumption) (fun h => absurd h (by decide)) (fun _ => ?_)
    refine j_aload_n d_Row_replace_8 rfl ?_
    refine gf_Row_0_0 f_Row_9 d_Row_replace_9 ?_
    refine j_iload_n d_Row_replace_12 rfl ?_
    refine j_iload_n d_Row_replace_13 rfl ?_
    refine as_Row_1 d_Row_replace_14 (by omega) (by omega) ?_
    refine j_aload_n d_Row_replace_15 rfl ?_
    refine z_iconst d_Row_replace_16 ?_
    refine pf_Row_0_6 f_Row_31 d_Row_replace_17 (by first | exact Or.inl rfl | exact Or.inr rfl | assumption | omega) ?_
    first | exact j_return rfl d_Row_replace_20 (ht (by omega)) | exact j_return rfl d_Row_replace_20 (hf (by omega))
  · refine z_if_eq (t := 20) d_Row_replace_5 (by decide) (by first | omega | exact hw _ | exact hx _ _ | assumption) (fun _ => ?_) (fun h => absurd h (by decide))
    first | exact j_return rfl d_Row_replace_20 (ht (by omega)) | exact j_return rfl d_Row_replace_20 (hf (by omega))
theorem t_Row_copyFrom {g : Bool} {d : Nat} {Q : List xM → Option Value → Prop} {rn rl rp qn ql qp : Int} {rs rm rd ro qs qm qd qo : Int → Int} (hQ : Q (W_R2 qn rl 0 qn ql qp (cpy qs rs 0 0 20) rm rd ro qs qm qd qo) none) : CT g m_Row_copyFrom (d + 1) [.ref 0, .ref 5] (W_R2 rn rl rp qn ql qp rs rm rd ro qs qm qd qo) 0 0 Q := by
  refine CT.of (by decide) (Nat.le_of_ble_eq_true rfl) ?_
  show SJ _ _ _ _ [some (.ref 0), some (.ref 5)] [] _ _ _ _
  refine j_aload_n d_Row_copyFrom_0 rfl ?_
  refine gf_R2_5_0 f_Row_9 d_Row_copyFrom_1 ?_
  refine z_iconst d_Row_copyFrom_4 ?_
  refine j_aload_n d_Row_copyFrom_5 rfl ?_
  refine gf_R2_0_0 f_Row_9 d_Row_copyFrom_6 ?_
  refine z_iconst d_Row_copyFrom_9 ?_
  refine z_bipush d_Row_copyFrom_10 (by decide) ?_
  refine z_copyI d_Row_copyFrom_12 ac_Row_35 rfl rfl (by decide) (by decide) (by decide) (by decide) (by decide) (by decide) (by decide) (by decide) (Nat.le_of_ble_eq_true rfl) ?_
  show SJ _ _ _ _ _ _ (W_R2 rn rl rp qn ql qp (cpy qs rs 0 0 20) rm rd ro qs qm qd qo) _ _ _
  refine j_aload_n d_Row_copyFrom_15 rfl ?_
  refine j_aload_n d_Row_copyFrom_16 rfl ?_
  refine gf_R2_5_1 f_Row_15 d_Row_copyFrom_17 ?_
  refine pf_R2_0_1 f_Row_15 d_Row_copyFrom_20 ?_
  refine j_aload_n d_Row_copyFrom_23 rfl ?_
  refine z_iconst d_Row_copyFrom_24 ?_
  refine pf_R2_0_6 f_Row_31 d_Row_copyFrom_25 (by first | exact Or.inl rfl | exact Or.inr rfl | assumption | omega) ?_
  exact j_return rfl d_Row_copyFrom_28 hQ
theorem lp_findMates {g : Bool} {d : Nat} {Q : List xM → Option Value → Prop} {rn rp : Int} {rs rd : Int → Int} {K : Int → Int} (hn0 : 0 ≤ rn) (hn1 : rn ≤ 20) (hrs : ∀ j, 0 ≤ j → j < rn → rs j = K (1 + j) ∧ 0 ≤ rs j ∧ rs j ≤ 11) {R : Int × Int × (Int → Int) × (Int → Int)} (hQ : Q (W_Row rn (R.2.1 + R.1) rp rs R.2.2.1 rd R.2.2.2) none) : ∀ (nn : Nat) (p : Int) (top : Int) (loose : Int) (po : Int → Int) (op : Int → Int), (rn - p).toNat = nn → 0 ≤ p → p ≤ rn → 0 ≤ top → top ≤ p → (∀ j, 0 ≤ j → j < top → 0 ≤ op j ∧ op j < p ∧ K (1 + op j) < 3) → prs K (rn - p).toNat p (top, loose, po, op) = R → SJ g m_Row_findMates (d + 1) 9 [some (.ref 0), some (.int (ii top)), some (.int (ii p))] [] (W_Row rn loose rp rs po rd op) 0 0 Q := by
  intro nn
  induction nn using Nat.strongRecOn with
  | ind nn ih =>
  intro p top loose po op hn a1 a2 a3 a4 a5 hR2
  refine j_iload_n d_Row_findMates_9 rfl ?_
  refine j_aload_n d_Row_findMates_10 rfl ?_
  refine gf_Row_0_1 f_Row_15 d_Row_findMates_11 ?_
  refine z_icmp_ge (t := 136) d_Row_findMates_14 (by decide) (by first | omega | exact hw _ | exact hx _ _ | assumption) (by first | omega | exact hw _ | exact hx _ _ | assumption) (fun h14 => ?_) (fun h14 => ?_)
  · rw [show (rn - p).toNat = 0 by omega] at hR2
    simp only [prs] at hR2
    subst hR2
    refine j_aload_n d_Row_findMates_136 rfl ?_
    refine j_dup d_Row_findMates_137 rfl ?_
    refine gf_Row_0_5 f_Row_28 d_Row_findMates_138 ?_
    refine j_iload_n d_Row_findMates_141 rfl ?_
    refine z_iadd d_Row_findMates_142 ?_
    refine pf_Row_0_5 f_Row_28 d_Row_findMates_143 ?_
    exact j_return rfl d_Row_findMates_146 hQ
  · have hsp := hrs p (by omega) (by omega)
    rw [show (rn - p).toNat = (rn - (p + 1)).toNat + 1 by omega] at hR2
    simp only [prs] at hR2
    have hkd := kd_R (s := rs p) (by omega)
    refine j_aload_n d_Row_findMates_17 rfl ?_
    refine gf_Row_0_2 f_Row_19 d_Row_findMates_18 ?_
    refine j_iload_n d_Row_findMates_21 rfl ?_
    refine z_iconst d_Row_findMates_22 ?_
    refine as_Row_2 d_Row_findMates_23 (by omega) (by omega) ?_
    refine j_aload_n d_Row_findMates_24 rfl ?_
    refine gf_Row_0_0 f_Row_9 d_Row_findMates_25 ?_
    refine j_iload_n d_Row_findMates_28 rfl ?_
    refine al_Row_1 d_Row_findMates_29 (by omega) (by omega) ?_
    refine s_call1 d_Row_findMates_30 c_Row_55 (Nat.le_of_ble_eq_true rfl) (t_Row_opens (by first | omega | exact hw _ | exact hx _ _ | assumption) (fun h30 => ?_) (fun h30 => ?_))
    · refine z_if_eq (t := 49) d_Row_findMates_33 (by decide) (by first | omega | exact hw _ | exact hx _ _ | assumption) (fun h => absurd h (by decide)) (fun _ => ?_)
      refine j_aload_n d_Row_findMates_36 rfl ?_
      refine gf_Row_0_4 f_Row_25 d_Row_findMates_37 ?_
      refine j_iload_n d_Row_findMates_40 rfl ?_
      refine j_iload_n d_Row_findMates_41 rfl ?_
      refine as_Row_4 d_Row_findMates_42 (by omega) (by omega) ?_
      refine z_iinc d_Row_findMates_43 rfl (by decide) ?_
      show SJ _ _ _ _ [_, _, _] _ _ _ _ _
      refine j_goto (t := 130) d_Row_findMates_46 (by decide) ?_
      refine z_iinc d_Row_findMates_130 rfl (by decide) ?_
      show SJ _ _ _ _ [_, _, _] _ _ _ _ _
      refine j_goto (t := 9) d_Row_findMates_133 (by decide) ?_
      exact ih _ (by omega) _ _ _ _ _ rfl (by omega) (by omega) (by omega) (by omega) (by first | (intro j h1 h2; by_cases e : j = top; (subst e; rw [up_eq]; exact ⟨by omega, by omega, by rw [← hsp.1]; omega⟩); (rw [up_ne e]; have := a5 j h1 (by omega); exact ⟨this.1, by omega, this.2.2⟩)) | (intro j h1 h2; have := a5 j h1 (by omega); exact ⟨this.1, by omega, this.2.2⟩)) (by first | (rw [prS, if_pos (by omega)] at hR2; exact hR2) | (rw [prS, if_neg (by omega), if_pos ⟨by omega, by omega, hkk⟩] at hR2; exact hR2) | (rw [prS, if_neg (by omega), if_neg (fun q => hkk q.2.2), if_pos (by omega)] at hR2; exact hR2) | (rw [prS, if_neg (by omega), if_neg (by omega), if_pos (by omega)] at hR2; exact hR2) | (rw [prS, if_neg (by omega), if_neg (by omega), if_neg (by omega)] at hR2; exact hR2))
    · refine z_if_eq (t := 49) d_Row_findMates_33 (by decide) (by first | omega | exact hw _ | exact hx _ _ | assumption) (fun _ => ?_) (fun h => absurd h (by decide))
      refine j_aload_n d_Row_findMates_49 rfl ?_
      refine gf_Row_0_0 f_Row_9 d_Row_findMates_50 ?_
      refine j_iload_n d_Row_findMates_53 rfl ?_
      refine al_Row_1 d_Row_findMates_54 (by omega) (by omega) ?_
      refine s_call1 d_Row_findMates_55 c_Row_58 (Nat.le_of_ble_eq_true rfl) (t_Row_closes (by first | omega | exact hw _ | exact hx _ _ | assumption) (fun h55 => ?_) (fun h55 => ?_))
      · refine z_if_eq (t := 130) d_Row_findMates_58 (by decide) (by first | omega | exact hw _ | exact hx _ _ | assumption) (fun h => absurd h (by decide)) (fun _ => ?_)
        refine j_iload_n d_Row_findMates_61 rfl ?_
        refine z_if_le (t := 120) d_Row_findMates_62 (by decide) (by first | omega | exact hw _ | exact hx _ _ | assumption) (fun h62 => ?_) (fun h62 => ?_)
        · try have hkk : ¬ kd (K (1 + op (top - 1))) = kd (K (1 + p)) := by rw [kd_op (by omega) (by omega), ← hso.1, ← hsp.1]; omega
          refine j_aload_n d_Row_findMates_120 rfl ?_
          refine j_dup d_Row_findMates_121 rfl ?_
          refine gf_Row_0_5 f_Row_28 d_Row_findMates_122 ?_
          refine z_iconst d_Row_findMates_125 ?_
          refine z_iadd d_Row_findMates_126 ?_
          refine pf_Row_0_5 f_Row_28 d_Row_findMates_127 ?_
          refine z_iinc d_Row_findMates_130 rfl (by decide) ?_
          show SJ _ _ _ _ [_, _, _] _ _ _ _ _
          refine j_goto (t := 9) d_Row_findMates_133 (by decide) ?_
          exact ih _ (by omega) _ _ _ _ _ rfl (by omega) (by omega) (by omega) (by omega) (by first | (intro j h1 h2; by_cases e : j = top; (subst e; rw [up_eq]; exact ⟨by omega, by omega, by rw [← hsp.1]; omega⟩); (rw [up_ne e]; have := a5 j h1 (by omega); exact ⟨this.1, by omega, this.2.2⟩)) | (intro j h1 h2; have := a5 j h1 (by omega); exact ⟨this.1, by omega, this.2.2⟩)) (by first | (rw [prS, if_pos (by omega)] at hR2; exact hR2) | (rw [prS, if_neg (by omega), if_pos ⟨by omega, by omega, hkk⟩] at hR2; exact hR2) | (rw [prS, if_neg (by omega), if_neg (fun q => hkk q.2.2), if_pos (by omega)] at hR2; exact hR2) | (rw [prS, if_neg (by omega), if_neg (by omega), if_pos (by omega)] at hR2; exact hR2) | (rw [prS, if_neg (by omega), if_neg (by omega), if_neg (by omega)] at hR2; exact hR2))
        · have ho := a5 (top - 1) (by omega) (by omega)
          have hso := hrs (op (top - 1)) (by omega) (by omega)
          refine j_aload_n d_Row_findMates_65 rfl ?_
          refine gf_Row_0_0 f_Row_9 d_Row_findMates_66 ?_
          refine j_aload_n d_Row_findMates_69 rfl ?_
          refine gf_Row_0_4 f_Row_25 d_Row_findMates_70 ?_
          refine j_iload_n d_Row_findMates_73 rfl ?_
          refine z_iconst d_Row_findMates_74 ?_
          refine z_isub d_Row_findMates_75 ?_
          refine al_Row_4 d_Row_findMates_76 (by omega) (by omega) ?_
          refine al_Row_1 d_Row_findMates_77 (by omega) (by omega) ?_
          refine j_aload_n d_Row_findMates_78 rfl ?_
          refine gf_Row_0_0 f_Row_9 d_Row_findMates_79 ?_
          refine j_iload_n d_Row_findMates_82 rfl ?_
          refine al_Row_1 d_Row_findMates_83 (by omega) (by omega) ?_
          refine s_call1 d_Row_findMates_84 c_Row_61 (Nat.le_of_ble_eq_true rfl) (t_Row_kindOf (by first | omega | exact hw _ | exact hx _ _ | assumption) ?_)
          refine z_icmp_ne (t := 120) d_Row_findMates_87 (by decide) (by first | exact hkd | omega) (by first | exact hkd | omega) (fun h87 => ?_) (fun h87 => ?_)
          · try have hkk : ¬ kd (K (1 + op (top - 1))) = kd (K (1 + p)) := by rw [kd_op (by omega) (by omega), ← hso.1, ← hsp.1]; omega
            refine j_aload_n d_Row_findMates_120 rfl ?_
            refine j_dup d_Row_findMates_121 rfl ?_
            refine gf_Row_0_5 f_Row_28 d_Row_findMates_122 ?_
            refine z_iconst d_Row_findMates_125 ?_
            refine z_iadd d_Row_findMates_126 ?_
            refine pf_Row_0_5 f_Row_28 d_Row_findMates_127 ?_
            refine z_iinc d_Row_findMates_130 rfl (by decide) ?_
            show SJ _ _ _ _ [_, _, _] _ _ _ _ _
            refine j_goto (t := 9) d_Row_findMates_133 (by decide) ?_
            exact ih _ (by omega) _ _ _ _ _ rfl (by omega) (by omega) (by omega) (by omega) (by first | (intro j h1 h2; by_cases e : j = top; (subst e; rw [up_eq]; exact ⟨by omega, by omega, by rw [← hsp.1]; omega⟩); (rw [up_ne e]; have := a5 j h1 (by omega); exact ⟨this.1, by omega, this.2.2⟩)) | (intro j h1 h2; have := a5 j h1 (by omega); exact ⟨this.1, by omega, this.2.2⟩)) (by first | (rw [prS, if_pos (by omega)] at hR2; exact hR2) | (rw [prS, if_neg (by omega), if_pos ⟨by omega, by omega, hkk⟩] at hR2; exact hR2) | (rw [prS, if_neg (by omega), if_neg (fun q => hkk q.2.2), if_pos (by omega)] at hR2; exact hR2) | (rw [prS, if_neg (by omega), if_neg (by omega), if_pos (by omega)] at hR2; exact hR2) | (rw [prS, if_neg (by omega), if_neg (by omega), if_neg (by omega)] at hR2; exact hR2))
          · have hkk : kd (K (1 + op (top - 1))) = kd (K (1 + p)) := by rw [kd_op (by omega) (by omega), ← hso.1, ← hsp.1]; omega
            refine z_iinc d_Row_findMates_90 rfl (by decide) ?_
            show SJ _ _ _ _ [_, _, _] _ _ _ _ _
            rw [show top + -1 = top - 1 by omega]
            refine j_aload_n d_Row_findMates_93 rfl ?_
            refine gf_Row_0_2 f_Row_19 d_Row_findMates_94 ?_
            refine j_iload_n d_Row_findMates_97 rfl ?_
            refine j_aload_n d_Row_findMates_98 rfl ?_
            refine gf_Row_0_4 f_Row_25 d_Row_findMates_99 ?_
            refine j_iload_n d_Row_findMates_102 rfl ?_
            refine al_Row_4 d_Row_findMates_103 (by omega) (by omega) ?_
            refine as_Row_2 d_Row_findMates_104 (by omega) (by omega) ?_
            refine j_aload_n d_Row_findMates_105 rfl ?_
            refine gf_Row_0_2 f_Row_19 d_Row_findMates_106 ?_
            refine j_aload_n d_Row_findMates_109 rfl ?_
            refine gf_Row_0_4 f_Row_25 d_Row_findMates_110 ?_
            refine j_iload_n d_Row_findMates_113 rfl ?_
            refine al_Row_4 d_Row_findMates_114 (by omega) (by omega) ?_
            refine j_iload_n d_Row_findMates_115 rfl ?_
            refine as_Row_2 d_Row_findMates_116 (by omega) (by omega) ?_
            refine j_goto (t := 130) d_Row_findMates_117 (by decide) ?_
            refine z_iinc d_Row_findMates_130 rfl (by decide) ?_
            show SJ _ _ _ _ [_, _, _] _ _ _ _ _
            refine j_goto (t := 9) d_Row_findMates_133 (by decide) ?_
            exact ih _ (by omega) _ _ _ _ _ rfl (by omega) (by omega) (by omega) (by omega) (by first | (intro j h1 h2; by_cases e : j = top; (subst e; rw [up_eq]; exact ⟨by omega, by omega, by rw [← hsp.1]; omega⟩); (rw [up_ne e]; have := a5 j h1 (by omega); exact ⟨this.1, by omega, this.2.2⟩)) | (intro j h1 h2; have := a5 j h1 (by omega); exact ⟨this.1, by omega, this.2.2⟩)) (by first | (rw [prS, if_pos (by omega)] at hR2; exact hR2) | (rw [prS, if_neg (by omega), if_pos ⟨by omega, by omega, hkk⟩] at hR2; exact hR2) | (rw [prS, if_neg (by omega), if_neg (fun q => hkk q.2.2), if_pos (by omega)] at hR2; exact hR2) | (rw [prS, if_neg (by omega), if_neg (by omega), if_pos (by omega)] at hR2; exact hR2) | (rw [prS, if_neg (by omega), if_neg (by omega), if_neg (by omega)] at hR2; exact hR2))
      · refine z_if_eq (t := 130) d_Row_findMates_58 (by decide) (by first | omega | exact hw _ | exact hx _ _ | assumption) (fun _ => ?_) (fun h => absurd h (by decide))
        refine z_iinc d_Row_findMates_130 rfl (by decide) ?_
        show SJ _ _ _ _ [_, _, _] _ _ _ _ _
        refine j_goto (t := 9) d_Row_findMates_133 (by decide) ?_
        exact ih _ (by omega) _ _ _ _ _ rfl (by omega) (by omega) (by omega) (by omega) (by first | (intro j h1 h2; by_cases e : j = top; (subst e; rw [up_eq]; exact ⟨by omega, by omega, by rw [← hsp.1]; omega⟩); (rw [up_ne e]; have := a5 j h1 (by omega); exact ⟨this.1, by omega, this.2.2⟩)) | (intro j h1 h2; have := a5 j h1 (by omega); exact ⟨this.1, by omega, this.2.2⟩)) (by first | (rw [prS, if_pos (by omega)] at hR2; exact hR2) | (rw [prS, if_neg (by omega), if_pos ⟨by omega, by omega, hkk⟩] at hR2; exact hR2) | (rw [prS, if_neg (by omega), if_neg (fun q => hkk q.2.2), if_pos (by omega)] at hR2; exact hR2) | (rw [prS, if_neg (by omega), if_neg (by omega), if_pos (by omega)] at hR2; exact hR2) | (rw [prS, if_neg (by omega), if_neg (by omega), if_neg (by omega)] at hR2; exact hR2))
theorem t_Row_findMates {g : Bool} {d : Nat} {Q : List xM → Option Value → Prop} {rn rl rp : Int} {rs rm rd ro : Int → Int} {K : Int → Int} (hR : RI K rn rl rp rs rm rd) (hQ : Q (W_Row rn (lo K 0 (K 0)) rp rs (prR K 0 (K 0) rm ro).2.2.1 rd (prR K 0 (K 0) rm ro).2.2.2) none) : CT g m_Row_findMates (d + 1) [.ref 0] (W_Row rn rl rp rs rm rd ro) 0 0 Q := by
  refine CT.of (by decide) (Nat.le_of_ble_eq_true rfl) ?_
  show SJ _ _ _ _ [some (.ref 0), none, none] [] _ _ _ _
  obtain ⟨hrn, ⟨hn0, hn1⟩, hrs, hrp, hpu⟩ := id hR
  refine z_iconst d_Row_findMates_0 ?_
  refine j_istore_n d_Row_findMates_1 (by decide) ?_
  show SJ _ _ _ _ [_, _, _] _ _ _ _ _
  refine j_aload_n d_Row_findMates_2 rfl ?_
  refine z_iconst d_Row_findMates_3 ?_
  refine pf_Row_0_5 f_Row_28 d_Row_findMates_4 ?_
  refine z_iconst d_Row_findMates_7 ?_
  refine j_istore_n d_Row_findMates_8 (by decide) ?_
  show SJ _ _ _ _ [_, _, _] _ _ _ _ _
  refine lp_findMates hn0 hn1 hrs (R := (prR K 0 (K 0) rm ro)) ?_ _ 0 0 0 rm ro rfl (by omega) (by omega) (by omega) (by omega) (fun j h1 h2 => by omega) (by rw [hrn]; rfl)
  rw [lo_eq rm ro]
  exact hQ
theorem lp_countDepths {g : Bool} {d : Nat} {Q : List xM → Option Value → Prop} {rn rl rp : Int} {rs rm ro : Int → Int} (hn0 : 0 ≤ rn) (hn1 : rn ≤ 20) (hm : MtI rm rn) (hQ : ∀ rdz, (∀ q, 0 ≤ q → q < rn → rdz q = dpc rm q q.toNat) → Q (W_Row rn rl rp rs rm rdz ro) none) : ∀ (nn : Nat) (p : Int) (dv : Int) (de : Int → Int), (rn - p).toNat = nn → 0 ≤ p → p ≤ rn → dv = dpc rm (p - 1) p.toNat → (∀ q, 0 ≤ q → q < p → de q = dpc rm q q.toNat) → SJ g m_Row_countDepths d 4 [some (.ref 0), some (.int (ii dv)), some (.int (ii p)), none] [] (W_Row rn rl rp rs rm de ro) 0 0 Q := by
  intro nn
  induction nn using Nat.strongRecOn with
  | ind nn ih =>
  intro p dv de hn a1 a2 a4 a3
  refine j_iload_n d_Row_countDepths_4 rfl ?_
  refine j_aload_n d_Row_countDepths_5 rfl ?_
  refine gf_Row_0_1 f_Row_15 d_Row_countDepths_6 ?_
  refine z_icmp_ge (t := 75) d_Row_countDepths_9 (by decide) (by first | omega | exact hw _ | exact hx _ _ | assumption) (by first | omega | exact hw _ | exact hx _ _ | assumption) (fun h9 => ?_) (fun h9 => ?_)
  · exact j_return rfl d_Row_countDepths_75 (hQ de (fun q q0 q1 => a3 q q0 (by omega)))
  · have hb_ := dpc_b hm a1 (by omega)
    have hmp0 := hm p a1 (by omega)
    have hmp : rm p = -1 ∨ (0 ≤ rm p ∧ rm p < rn ∧ rm p ≠ p) := by rcases hmp0 with h | ⟨h1, h2, h3, h4⟩; exact Or.inl h; exact Or.inr ⟨h1, h2, h3⟩
    clear hmp0
    have hds := dpc_s (m := rm) (p := p) (q := p) a1
    refine j_aload_n d_Row_countDepths_12 rfl ?_
    refine gf_Row_0_2 f_Row_19 d_Row_countDepths_13 ?_
    refine j_iload_n d_Row_countDepths_16 rfl ?_
    refine al_Row_2 d_Row_countDepths_17 (by omega) (by omega) ?_
    refine z_iconst d_Row_countDepths_18 ?_
    refine z_icmp_eq (t := 26) d_Row_countDepths_19 (by decide) (by first | omega | exact hw _ | exact hx _ _ | assumption) (by first | omega | exact hw _ | exact hx _ _ | assumption) (fun h19 => ?_) (fun h19 => ?_)
    · refine z_iconst d_Row_countDepths_26 ?_
      refine j_istore_n d_Row_countDepths_27 (by decide) ?_
      show SJ _ _ _ _ [_, _, _, _] _ _ _ _ _
      refine j_iload_n d_Row_countDepths_28 rfl ?_
      refine z_if_eq (t := 45) d_Row_countDepths_29 (by decide) (by first | omega | exact hw _ | exact hx _ _ | assumption) (fun _ => ?_) (fun h => absurd h (by decide))
      first | rw [if_pos (by omega)] at hb_ | rw [if_neg (by omega)] at hb_
      refine j_aload_n d_Row_countDepths_45 rfl ?_
      refine gf_Row_0_3 f_Row_22 d_Row_countDepths_46 ?_
      refine j_iload_n d_Row_countDepths_49 rfl ?_
      refine j_iload_n d_Row_countDepths_50 rfl ?_
      refine as_Row_3 d_Row_countDepths_51 (by omega) (by omega) ?_
      refine j_iload_n d_Row_countDepths_52 rfl ?_
      refine z_if_eq (t := 69) d_Row_countDepths_53 (by decide) (by first | omega | exact hw _ | exact hx _ _ | assumption) (fun _ => ?_) (fun h => absurd h (by decide))
      first | rw [if_pos (by omega)] at hds | rw [if_neg (by omega)] at hds
      refine z_iinc d_Row_countDepths_69 rfl (by decide) ?_
      show SJ _ _ _ _ [_, _, _, _] _ _ _ _ _
      refine j_goto (t := 4) d_Row_countDepths_72 (by decide) ?_
      refine SJ.mask [true, true, true, false] ?_
      show SJ _ _ _ _ [_, _, _, none] _ _ _ _ _
      exact ih _ (by omega) _ _ _ rfl (by omega) (by omega) (by rw [show p + 1 - 1 = p by omega]; omega) (fun q q0 q1 => by
            by_cases e : q = p
            · subst e
              rw [up_eq]
              omega
            · rw [up_ne e]
              exact a3 q q0 (by omega))
    · refine z_iconst d_Row_countDepths_22 ?_
      refine j_goto (t := 27) d_Row_countDepths_23 (by decide) ?_
      refine j_istore_n d_Row_countDepths_27 (by decide) ?_
      show SJ _ _ _ _ [_, _, _, _] _ _ _ _ _
      refine j_iload_n d_Row_countDepths_28 rfl ?_
      refine z_if_eq (t := 45) d_Row_countDepths_29 (by decide) (by first | omega | exact hw _ | exact hx _ _ | assumption) (fun h => absurd h (by decide)) (fun _ => ?_)
      refine j_aload_n d_Row_countDepths_32 rfl ?_
      refine gf_Row_0_2 f_Row_19 d_Row_countDepths_33 ?_
      refine j_iload_n d_Row_countDepths_36 rfl ?_
      refine al_Row_2 d_Row_countDepths_37 (by omega) (by omega) ?_
      refine j_iload_n d_Row_countDepths_38 rfl ?_
      refine z_icmp_ge (t := 45) d_Row_countDepths_39 (by decide) (by first | omega | exact hw _ | exact hx _ _ | assumption) (by first | omega | exact hw _ | exact hx _ _ | assumption) (fun h39 => ?_) (fun h39 => ?_)
      · first | rw [if_pos (by omega)] at hb_ | rw [if_neg (by omega)] at hb_
        refine j_aload_n d_Row_countDepths_45 rfl ?_
        refine gf_Row_0_3 f_Row_22 d_Row_countDepths_46 ?_
        refine j_iload_n d_Row_countDepths_49 rfl ?_
        refine j_iload_n d_Row_countDepths_50 rfl ?_
        refine as_Row_3 d_Row_countDepths_51 (by omega) (by omega) ?_
        refine j_iload_n d_Row_countDepths_52 rfl ?_
        refine z_if_eq (t := 69) d_Row_countDepths_53 (by decide) (by first | omega | exact hw _ | exact hx _ _ | assumption) (fun h => absurd h (by decide)) (fun _ => ?_)
        refine j_aload_n d_Row_countDepths_56 rfl ?_
        refine gf_Row_0_2 f_Row_19 d_Row_countDepths_57 ?_
        refine j_iload_n d_Row_countDepths_60 rfl ?_
        refine al_Row_2 d_Row_countDepths_61 (by omega) (by omega) ?_
        refine j_iload_n d_Row_countDepths_62 rfl ?_
        refine z_icmp_le (t := 69) d_Row_countDepths_63 (by decide) (by first | omega | exact hw _ | exact hx _ _ | assumption) (by first | omega | exact hw _ | exact hx _ _ | assumption) (fun h63 => ?_) (fun h63 => ?_)
        · first | rw [if_pos (by omega)] at hds | rw [if_neg (by omega)] at hds
          refine z_iinc d_Row_countDepths_69 rfl (by decide) ?_
          show SJ _ _ _ _ [_, _, _, _] _ _ _ _ _
          refine j_goto (t := 4) d_Row_countDepths_72 (by decide) ?_
          refine SJ.mask [true, true, true, false] ?_
          show SJ _ _ _ _ [_, _, _, none] _ _ _ _ _
          exact ih _ (by omega) _ _ _ rfl (by omega) (by omega) (by rw [show p + 1 - 1 = p by omega]; omega) (fun q q0 q1 => by
                by_cases e : q = p
                · subst e
                  rw [up_eq]
                  omega
                · rw [up_ne e]
                  exact a3 q q0 (by omega))
        · refine z_iinc d_Row_countDepths_66 rfl (by decide) ?_
          show SJ _ _ _ _ [_, _, _, _] _ _ _ _ _
          first | rw [if_pos (by omega)] at hds | rw [if_neg (by omega)] at hds
          refine z_iinc d_Row_countDepths_69 rfl (by decide) ?_
          show SJ _ _ _ _ [_, _, _, _] _ _ _ _ _
          refine j_goto (t := 4) d_Row_countDepths_72 (by decide) ?_
          refine SJ.mask [true, true, true, false] ?_
          show SJ _ _ _ _ [_, _, _, none] _ _ _ _ _
          exact ih _ (by omega) _ _ _ rfl (by omega) (by omega) (by rw [show p + 1 - 1 = p by omega]; omega) (fun q q0 q1 => by
                by_cases e : q = p
                · subst e
                  rw [up_eq]
                  omega
                · rw [up_ne e]
                  exact a3 q q0 (by omega))
      · refine z_iinc d_Row_countDepths_42 rfl (by decide) ?_
        show SJ _ _ _ _ [_, _, _, _] _ _ _ _ _
        first | rw [if_pos (by omega)] at hb_ | rw [if_neg (by omega)] at hb_
        refine j_aload_n d_Row_countDepths_45 rfl ?_
        refine gf_Row_0_3 f_Row_22 d_Row_countDepths_46 ?_
        refine j_iload_n d_Row_countDepths_49 rfl ?_
        refine j_iload_n d_Row_countDepths_50 rfl ?_
        refine as_Row_3 d_Row_countDepths_51 (by omega) (by omega) ?_
        refine j_iload_n d_Row_countDepths_52 rfl ?_
        refine z_if_eq (t := 69) d_Row_countDepths_53 (by decide) (by first | omega | exact hw _ | exact hx _ _ | assumption) (fun h => absurd h (by decide)) (fun _ => ?_)
        refine j_aload_n d_Row_countDepths_56 rfl ?_
        refine gf_Row_0_2 f_Row_19 d_Row_countDepths_57 ?_
        refine j_iload_n d_Row_countDepths_60 rfl ?_
        refine al_Row_2 d_Row_countDepths_61 (by omega) (by omega) ?_
        refine j_iload_n d_Row_countDepths_62 rfl ?_
        refine z_icmp_le (t := 69) d_Row_countDepths_63 (by decide) (by first | omega | exact hw _ | exact hx _ _ | assumption) (by first | omega | exact hw _ | exact hx _ _ | assumption) (fun h63 => ?_) (fun h63 => ?_)
        · first | rw [if_pos (by omega)] at hds | rw [if_neg (by omega)] at hds
          refine z_iinc d_Row_countDepths_69 rfl (by decide) ?_
          show SJ _ _ _ _ [_, _, _, _] _ _ _ _ _
          refine j_goto (t := 4) d_Row_countDepths_72 (by decide) ?_
          refine SJ.mask [true, true, true, false] ?_
          show SJ _ _ _ _ [_, _, _, none] _ _ _ _ _
          exact ih _ (by omega) _ _ _ rfl (by omega) (by omega) (by rw [show p + 1 - 1 = p by omega]; omega) (fun q q0 q1 => by
                by_cases e : q = p
                · subst e
                  rw [up_eq]
                  omega
                · rw [up_ne e]
                  exact a3 q q0 (by omega))
        · refine z_iinc d_Row_countDepths_66 rfl (by decide) ?_
          show SJ _ _ _ _ [_, _, _, _] _ _ _ _ _
          first | rw [if_pos (by omega)] at hds | rw [if_neg (by omega)] at hds
          refine z_iinc d_Row_countDepths_69 rfl (by decide) ?_
          show SJ _ _ _ _ [_, _, _, _] _ _ _ _ _
          refine j_goto (t := 4) d_Row_countDepths_72 (by decide) ?_
          refine SJ.mask [true, true, true, false] ?_
          show SJ _ _ _ _ [_, _, _, none] _ _ _ _ _
          exact ih _ (by omega) _ _ _ rfl (by omega) (by omega) (by rw [show p + 1 - 1 = p by omega]; omega) (fun q q0 q1 => by
                by_cases e : q = p
                · subst e
                  rw [up_eq]
                  omega
                · rw [up_ne e]
                  exact a3 q q0 (by omega))
theorem t_Row_countDepths {g : Bool} {d : Nat} {Q : List xM → Option Value → Prop} {rn rl rp : Int} {rs rm rd ro : Int → Int} (hn0 : 0 ≤ rn) (hn1 : rn ≤ 20) (hm : MtI rm rn) (hQ : ∀ rdz, (∀ q, 0 ≤ q → q < rn → rdz q = dpc rm q q.toNat) → Q (W_Row rn rl rp rs rm rdz ro) none) : CT g m_Row_countDepths d [.ref 0] (W_Row rn rl rp rs rm rd ro) 0 0 Q := by
  refine CT.of (by decide) (Nat.le_of_ble_eq_true rfl) ?_
  show SJ _ _ _ _ [some (.ref 0), none, none, none] [] _ _ _ _
  refine z_iconst d_Row_countDepths_0 ?_
  refine j_istore_n d_Row_countDepths_1 (by decide) ?_
  show SJ _ _ _ _ [_, _, _, _] _ _ _ _ _
  refine z_iconst d_Row_countDepths_2 ?_
  refine j_istore_n d_Row_countDepths_3 (by decide) ?_
  show SJ _ _ _ _ [_, _, _, _] _ _ _ _ _
  exact lp_countDepths hn0 hn1 hm hQ _ 0 0 rd rfl (by omega) (by omega) rfl (fun q q0 q1 => by omega)
theorem t_Row_pairUp {g : Bool} {d : Nat} {Q : List xM → Option Value → Prop} {rn rl rp : Int} {rs rm rd ro : Int → Int} {K : Int → Int} (hR : RI K rn rl rp rs rm rd) (hQ : ∀ rm rd ro, (∀ q, 0 ≤ q → q < rn → rm q = mt K q ∧ rd q = dp K q) → Q (W_Row rn (lo K 0 (K 0)) 1 rs rm rd ro) none) : CT g m_Row_pairUp (d + 2) [.ref 0] (W_Row rn rl rp rs rm rd ro) 0 0 Q := by
  refine CT.of (by decide) (Nat.le_of_ble_eq_true rfl) ?_
  show SJ _ _ _ _ [some (.ref 0)] [] _ _ _ _
  obtain ⟨hrn, ⟨hn0, hn1⟩, hrs, hrp, hpu⟩ := id hR
  refine j_aload_n d_Row_pairUp_0 rfl ?_
  refine gf_Row_0_6 f_Row_31 d_Row_pairUp_1 ?_
  refine z_if_eq (t := 8) d_Row_pairUp_4 (by decide) (by first | omega | exact hw _ | exact hx _ _ | assumption) (fun h4 => ?_) (fun h4 => ?_)
  · refine j_aload_n d_Row_pairUp_8 rfl ?_
    refine v_call0 d_Row_pairUp_9 c_Row_65 rfl ⟨_, rfl, rfl⟩ (Nat.le_of_ble_eq_true rfl) (t_Row_findMates hR ?_)
    refine j_aload_n d_Row_pairUp_12 rfl ?_
    refine v_call0 d_Row_pairUp_13 c_Row_68 rfl ⟨_, rfl, rfl⟩ (Nat.le_of_ble_eq_true rfl) (t_Row_countDepths hn0 hn1 (by rw [hrn]; exact prR_MtI (by omega)) (fun de hde => ?_))
    refine j_aload_n d_Row_pairUp_16 rfl ?_
    refine z_iconst d_Row_pairUp_17 ?_
    refine pf_Row_0_6 f_Row_31 d_Row_pairUp_18 (by first | exact Or.inl rfl | exact Or.inr rfl | assumption | omega) ?_
    refine j_return rfl d_Row_pairUp_21 (hQ _ _ _ (fun q q0 q1 => ?_))
    rw [hde q q0 q1]
    exact ⟨mt_eq rm ro q0 (by omega), dp_eq rm ro q0 (by omega)⟩
  · have e1 : rp = 1 := by omega
    obtain ⟨e2, e3⟩ := hpu e1
    rw [e1, e2]
    exact j_return rfl d_Row_pairUp_7 (hQ rm rd ro e3)
theorem t_Row_mateOf {g : Bool} {d : Nat} {Q : List xM → Option Value → Prop} {rn rl rp : Int} {rs rm rd ro : Int → Int} {K : Int → Int} (hR : RI K rn rl rp rs rm rd) {p : Int} (p0 : 0 ≤ p) (p1 : p < rn) (hQ : ∀ rl rp rm rd ro, RI K rn rl rp rs rm rd → Q (W_Row rn rl rp rs rm rd ro) (some (.int (ii (mt K p))))) : CT g m_Row_mateOf (d + 3) [.ref 0, .int (ii p)] (W_Row rn rl rp rs rm rd ro) 0 0 Q := by
  refine CT.of (by decide) (Nat.le_of_ble_eq_true rfl) ?_
  show SJ _ _ _ _ [some (.ref 0), some (.int (ii p))] [] _ _ _ _
  obtain ⟨hrn, ⟨hn0, hn1⟩, hrs, hrp, hpu⟩ := id hR
  refine j_aload_n d_Row_mateOf_0 rfl ?_
  refine v_call0 d_Row_mateOf_1 c_Row_45 rfl ⟨_, rfl, rfl⟩ (Nat.le_of_ble_eq_true rfl) (t_Row_pairUp hR (fun rm2 rd2 ro2 hag => ?_))
  refine j_aload_n d_Row_mateOf_4 rfl ?_
  refine gf_Row_0_2 f_Row_19 d_Row_mateOf_5 ?_
  refine j_iload_n d_Row_mateOf_8 rfl ?_
  refine al_Row_2 d_Row_mateOf_9 (by omega) (by omega) ?_
  refine z_iret rfl d_Row_mateOf_10 (hag p p0 p1).1 (hQ _ _ _ _ _ ⟨hrn, ⟨hn0, hn1⟩, hrs, Or.inr rfl, fun _ => ⟨rfl, hag⟩⟩)
theorem t_Row_depthOf {g : Bool} {d : Nat} {Q : List xM → Option Value → Prop} {rn rl rp : Int} {rs rm rd ro : Int → Int} {K : Int → Int} (hR : RI K rn rl rp rs rm rd) {p : Int} (p0 : 0 ≤ p) (p1 : p < rn) (hQ : ∀ rl rp rm rd ro, RI K rn rl rp rs rm rd → Q (W_Row rn rl rp rs rm rd ro) (some (.int (ii (dp K p))))) : CT g m_Row_depthOf (d + 3) [.ref 0, .int (ii p)] (W_Row rn rl rp rs rm rd ro) 0 0 Q := by
  refine CT.of (by decide) (Nat.le_of_ble_eq_true rfl) ?_
  show SJ _ _ _ _ [some (.ref 0), some (.int (ii p))] [] _ _ _ _
  obtain ⟨hrn, ⟨hn0, hn1⟩, hrs, hrp, hpu⟩ := id hR
  refine j_aload_n d_Row_depthOf_0 rfl ?_
  refine v_call0 d_Row_depthOf_1 c_Row_45 rfl ⟨_, rfl, rfl⟩ (Nat.le_of_ble_eq_true rfl) (t_Row_pairUp hR (fun rm2 rd2 ro2 hag => ?_))
  refine j_aload_n d_Row_depthOf_4 rfl ?_
  refine gf_Row_0_3 f_Row_22 d_Row_depthOf_5 ?_
  refine j_iload_n d_Row_depthOf_8 rfl ?_
  refine al_Row_3 d_Row_depthOf_9 (by omega) (by omega) ?_
  refine z_iret rfl d_Row_depthOf_10 (hag p p0 p1).2 (hQ _ _ _ _ _ ⟨hrn, ⟨hn0, hn1⟩, hrs, Or.inr rfl, fun _ => ⟨rfl, hag⟩⟩)
theorem t_Row_looseOnes {g : Bool} {d : Nat} {Q : List xM → Option Value → Prop} {rn rl rp : Int} {rs rm rd ro : Int → Int} {K : Int → Int} (hR : RI K rn rl rp rs rm rd) (hQ : ∀ rl rp rm rd ro, RI K rn rl rp rs rm rd → Q (W_Row rn rl rp rs rm rd ro) (some (.int (ii (lo K 0 (K 0)))))) : CT g m_Row_looseOnes (d + 3) [.ref 0] (W_Row rn rl rp rs rm rd ro) 0 0 Q := by
  refine CT.of (by decide) (Nat.le_of_ble_eq_true rfl) ?_
  show SJ _ _ _ _ [some (.ref 0)] [] _ _ _ _
  obtain ⟨hrn, ⟨hn0, hn1⟩, hrs, hrp, hpu⟩ := id hR
  refine j_aload_n d_Row_looseOnes_0 rfl ?_
  refine v_call0 d_Row_looseOnes_1 c_Row_45 rfl ⟨_, rfl, rfl⟩ (Nat.le_of_ble_eq_true rfl) (t_Row_pairUp hR (fun rm2 rd2 ro2 hag => ?_))
  refine j_aload_n d_Row_looseOnes_4 rfl ?_
  refine gf_Row_0_5 f_Row_28 d_Row_looseOnes_5 ?_
  refine z_iret rfl d_Row_looseOnes_8 rfl (hQ _ _ _ _ _ ⟨hrn, ⟨hn0, hn1⟩, hrs, Or.inr rfl, fun _ => ⟨rfl, hag⟩⟩)
theorem t_Row_isLoose {g : Bool} {d : Nat} {Q : List xM → Option Value → Prop} {rn rl rp : Int} {rs rm rd ro : Int → Int} {K : Int → Int} (hR : RI K rn rl rp rs rm rd) {p : Int} (p0 : 0 ≤ p) (p1 : p < rn) (ht : mt K p = -1 ∧ ¬ 6 ≤ K (1 + p) → ∀ rl rp rm rd ro, RI K rn rl rp rs rm rd → Q (W_Row rn rl rp rs rm rd ro) (some (.int (ii 1)))) (hf : ¬ (mt K p = -1 ∧ ¬ 6 ≤ K (1 + p)) → ∀ rl rp rm rd ro, RI K rn rl rp rs rm rd → Q (W_Row rn rl rp rs rm rd ro) (some (.int (ii 0)))) : CT g m_Row_isLoose (d + 3) [.ref 0, .int (ii p)] (W_Row rn rl rp rs rm rd ro) 0 0 Q := by
  refine CT.of (by decide) (Nat.le_of_ble_eq_true rfl) ?_
  show SJ _ _ _ _ [some (.ref 0), some (.int (ii p))] [] _ _ _ _
  obtain ⟨hrn, ⟨hn0, hn1⟩, hrs, hrp, hpu⟩ := id hR
  have hsp := hrs p p0 p1
  have hmr : R32 (mt K p) := by have := mt_R (K := K) (by omega) z0 z0 (q := p) p0 (by omega); show R32 ((prR K 0 (K 0) z0 z0).2.2.1 p) ; omega
  refine j_aload_n d_Row_isLoose_0 rfl ?_
  refine v_call0 d_Row_isLoose_1 c_Row_45 rfl ⟨_, rfl, rfl⟩ (Nat.le_of_ble_eq_true rfl) (t_Row_pairUp hR (fun rm2 rd2 ro2 hag => ?_))
  refine j_aload_n d_Row_isLoose_4 rfl ?_
  refine gf_Row_0_2 f_Row_19 d_Row_isLoose_5 ?_
  refine j_iload_n d_Row_isLoose_8 rfl ?_
  refine al_Row_2 d_Row_isLoose_9 (by omega) (by omega) ?_
  have hag1 := (hag p p0 p1).1
  refine z_iconst d_Row_isLoose_10 ?_
  refine z_icmp_ne (t := 30) d_Row_isLoose_11 (by decide) (by first | (rw [hag1]; exact hmr) | omega) (by first | (rw [hag1]; exact hmr) | omega) (fun h11 => ?_) (fun h11 => ?_)
  · refine z_iconst d_Row_isLoose_30 ?_
    exact z_zreturn rfl (Or.inl rfl) d_Row_isLoose_31 (hf (by omega) _ _ _ _ _ ⟨hrn, ⟨hn0, hn1⟩, hrs, Or.inr rfl, fun _ => ⟨rfl, hag⟩⟩)
  · refine j_aload_n d_Row_isLoose_14 rfl ?_
    refine gf_Row_0_0 f_Row_9 d_Row_isLoose_15 ?_
    refine j_iload_n d_Row_isLoose_18 rfl ?_
    refine al_Row_1 d_Row_isLoose_19 (by omega) (by omega) ?_
    refine s_call1 d_Row_isLoose_20 c_Row_48 (Nat.le_of_ble_eq_true rfl) (t_Row_isName (by first | omega | exact hw _ | exact hx _ _ | assumption) (fun h20 => ?_) (fun h20 => ?_))
    · refine z_if_ne (t := 30) d_Row_isLoose_23 (by decide) (by first | omega | exact hw _ | exact hx _ _ | assumption) (fun _ => ?_) (fun h => absurd h (by decide))
      refine z_iconst d_Row_isLoose_30 ?_
      exact z_zreturn rfl (Or.inl rfl) d_Row_isLoose_31 (hf (by omega) _ _ _ _ _ ⟨hrn, ⟨hn0, hn1⟩, hrs, Or.inr rfl, fun _ => ⟨rfl, hag⟩⟩)
    · refine z_if_ne (t := 30) d_Row_isLoose_23 (by decide) (by first | omega | exact hw _ | exact hx _ _ | assumption) (fun h => absurd h (by decide)) (fun _ => ?_)
      refine z_iconst d_Row_isLoose_26 ?_
      refine j_goto (t := 31) d_Row_isLoose_27 (by decide) ?_
      exact z_zreturn rfl (Or.inr rfl) d_Row_isLoose_31 (ht (by omega) _ _ _ _ _ ⟨hrn, ⟨hn0, hn1⟩, hrs, Or.inr rfl, fun _ => ⟨rfl, hag⟩⟩)
theorem t_Row_isAllWhole {g : Bool} {d : Nat} {Q : List xM → Option Value → Prop} {rn rl rp : Int} {rs rm rd ro : Int → Int} {K : Int → Int} (hR : RI K rn rl rp rs rm rd) (ht : lo K 0 (K 0) = 0 → ∀ rl rp rm rd ro, RI K rn rl rp rs rm rd → Q (W_Row rn rl rp rs rm rd ro) (some (.int (ii 1)))) (hf : ¬ (lo K 0 (K 0) = 0) → ∀ rl rp rm rd ro, RI K rn rl rp rs rm rd → Q (W_Row rn rl rp rs rm rd ro) (some (.int (ii 0)))) : CT g m_Row_isAllWhole (d + 4) [.ref 0] (W_Row rn rl rp rs rm rd ro) 0 0 Q := by
  refine CT.of (by decide) (Nat.le_of_ble_eq_true rfl) ?_
  show SJ _ _ _ _ [some (.ref 0)] [] _ _ _ _
  obtain ⟨hrn, ⟨hn0, hn1⟩, hrs, hrp, hpu⟩ := id hR
  have hlr := lo_R (K := K) (a := 0) (b := K 0) (by omega) (by omega)
  refine j_aload_n d_Row_isAllWhole_0 rfl ?_
  refine v_call0 d_Row_isAllWhole_1 c_Row_51 rfl ⟨_, rfl, rfl⟩ (Nat.le_of_ble_eq_true rfl) (t_Row_looseOnes hR (fun rl2 rp2 rm2 rd2 ro2 hR2 => ?_))
  refine z_if_ne (t := 11) d_Row_isAllWhole_4 (by decide) (by first | omega | exact hw _ | exact hx _ _ | assumption) (fun h4 => ?_) (fun h4 => ?_)
  · refine z_iconst d_Row_isAllWhole_11 ?_
    exact z_zreturn rfl (Or.inl rfl) d_Row_isAllWhole_12 (hf (by omega) _ _ _ _ _ hR2)
  · refine z_iconst d_Row_isAllWhole_7 ?_
    refine j_goto (t := 12) d_Row_isAllWhole_8 (by decide) ?_
    exact z_zreturn rfl (Or.inr rfl) d_Row_isAllWhole_12 (ht (by omega) _ _ _ _ _ hR2)
theorem lp_isWhole {g : Bool} {d : Nat} {Q : List xM → Option Value → Prop} {rn rl rp : Int} {rs rm rd : Int → Int} {K : Int → Int} {a b lov : Int} (h0 : 0 ≤ a) (h1 : b ≤ 20) (hrs : ∀ j, 0 ≤ j → j < b → rs j = K (1 + j) ∧ 0 ≤ rs j ∧ rs j ≤ 11) (ht : lov = 0 → ∀ ro, Q (W_Row rn rl rp rs rm rd ro) (some (.int (ii 1)))) (hf : ¬ lov = 0 → ∀ ro, Q (W_Row rn rl rp rs rm rd ro) (some (.int (ii 0)))) : ∀ (nn : Nat) (p : Int) (top : Int) (ro : Int → Int) (po : Int → Int) (op : Int → Int), (b - p).toNat = nn → a ≤ p → p ≤ b → 0 ≤ top → top ≤ p - a → (∀ j, 0 ≤ j → j < top → ro j = K (1 + op j) ∧ (0 ≤ ro j ∧ ro j < 3)) → (prs K (b - p).toNat p (top, 0, po, op)).2.1 + (prs K (b - p).toNat p (top, 0, po, op)).1 = lov → SJ g m_Row_isWhole (d + 1) 5 [some (.ref 0), some (.int (ii a)), some (.int (ii (b - 1))), some (.int (ii top)), some (.int (ii p)), none] [] (W_Row rn rl rp rs rm rd ro) 0 0 Q := by
  intro nn
  induction nn using Nat.strongRecOn with
  | ind nn ih =>
  intro p top ro po op hn a1 a2 a3 a4 a5 hL
  refine j_iload d_Row_isWhole_5 rfl ?_
  refine j_iload_n d_Row_isWhole_7 rfl ?_
  refine z_icmp_gt (t := 81) d_Row_isWhole_8 (by decide) (by first | omega | exact hw _ | exact hx _ _ | assumption) (by first | omega | exact hw _ | exact hx _ _ | assumption) (fun h8 => ?_) (fun h8 => ?_)
  · rw [show (b - p).toNat = 0 by omega] at hL
    simp only [prs] at hL
    refine j_iload_n d_Row_isWhole_81 rfl ?_
    refine z_if_ne (t := 89) d_Row_isWhole_82 (by decide) (by first | omega | exact hw _ | exact hx _ _ | assumption) (fun h82 => ?_) (fun h82 => ?_)
    · refine z_iconst d_Row_isWhole_89 ?_
      exact z_zreturn rfl (Or.inl rfl) d_Row_isWhole_90 (hf (by omega) _)
    · refine z_iconst d_Row_isWhole_85 ?_
      refine j_goto (t := 90) d_Row_isWhole_86 (by decide) ?_
      exact z_zreturn rfl (Or.inr rfl) d_Row_isWhole_90 (ht (by omega) _)
  · have hsp := hrs p (by omega) (by omega)
    rw [show (b - p).toNat = (b - (p + 1)).toNat + 1 by omega] at hL
    simp only [prs] at hL
    have hkd := kd_R (s := rs p) (by omega)
    refine j_aload_n d_Row_isWhole_11 rfl ?_
    refine gf_Row_0_0 f_Row_9 d_Row_isWhole_12 ?_
    refine j_iload d_Row_isWhole_15 rfl ?_
    refine al_Row_1 d_Row_isWhole_17 (by omega) (by omega) ?_
    refine j_istore d_Row_isWhole_18 (by decide) ?_
    show SJ _ _ _ _ [_, _, _, _, _, _] _ _ _ _ _
    refine j_iload d_Row_isWhole_20 rfl ?_
    refine s_call1 d_Row_isWhole_22 c_Row_55 (Nat.le_of_ble_eq_true rfl) (t_Row_opens (by first | omega | exact hw _ | exact hx _ _ | assumption) (fun h22 => ?_) (fun h22 => ?_))
    · refine z_if_eq (t := 42) d_Row_isWhole_25 (by decide) (by first | omega | exact hw _ | exact hx _ _ | assumption) (fun h => absurd h (by decide)) (fun _ => ?_)
      refine j_aload_n d_Row_isWhole_28 rfl ?_
      refine gf_Row_0_4 f_Row_25 d_Row_isWhole_29 ?_
      refine j_iload_n d_Row_isWhole_32 rfl ?_
      refine j_iload d_Row_isWhole_33 rfl ?_
      refine as_Row_4 d_Row_isWhole_35 (by omega) (by omega) ?_
      refine z_iinc d_Row_isWhole_36 rfl (by decide) ?_
      show SJ _ _ _ _ [_, _, _, _, _, _] _ _ _ _ _
      refine j_goto (t := 75) d_Row_isWhole_39 (by decide) ?_
      refine z_iinc d_Row_isWhole_75 rfl (by decide) ?_
      show SJ _ _ _ _ [_, _, _, _, _, _] _ _ _ _ _
      refine j_goto (t := 5) d_Row_isWhole_78 (by decide) ?_
      refine SJ.mask [true, true, true, true, true, false] ?_
      show SJ _ _ _ _ [_, _, _, _, _, none] _ _ _ _ _
      first
      | (rw [prS, if_pos (by omega)] at hL
         exact ih _ (by omega) _ _ _ _ (up op top p) rfl (by omega) (by omega) (by omega) (by omega) (fun j h1 h2 => by
           by_cases e : j = top
           · rw [e, up_eq, up_eq]
             exact ⟨hsp.1, by omega⟩
           · rw [up_ne e, up_ne e]
             exact a5 j h1 (by omega)) hL)
      | (rw [prS, if_neg (by omega), if_pos ⟨by omega, by omega, hkk⟩] at hL
         exact ih _ (by omega) _ _ _ _ op rfl (by omega) (by omega) (by omega) (by omega) (fun j h1 h2 => a5 j h1 (by omega)) hL)
      | (rw [prS, if_neg (by omega), if_neg (by omega), if_neg (by omega)] at hL
         exact ih _ (by omega) _ _ _ _ op rfl (by omega) (by omega) (by omega) (by omega) (fun j h1 h2 => a5 j h1 (by omega)) hL)
    · refine z_if_eq (t := 42) d_Row_isWhole_25 (by decide) (by first | omega | exact hw _ | exact hx _ _ | assumption) (fun _ => ?_) (fun h => absurd h (by decide))
      refine j_iload d_Row_isWhole_42 rfl ?_
      refine s_call1 d_Row_isWhole_44 c_Row_58 (Nat.le_of_ble_eq_true rfl) (t_Row_closes (by first | omega | exact hw _ | exact hx _ _ | assumption) (fun h44 => ?_) (fun h44 => ?_))
      · refine z_if_eq (t := 75) d_Row_isWhole_47 (by decide) (by first | omega | exact hw _ | exact hx _ _ | assumption) (fun h => absurd h (by decide)) (fun _ => ?_)
        refine j_iload_n d_Row_isWhole_50 rfl ?_
        refine z_if_eq (t := 70) d_Row_isWhole_51 (by decide) (by first | omega | exact hw _ | exact hx _ _ | assumption) (fun h51 => ?_) (fun h51 => ?_)
        · refine z_iconst d_Row_isWhole_70 ?_
          have hmis : ¬ (0 < top ∧ kd (K (1 + op (top - 1))) = kd (K (1 + p))) := by
            intro q
            have ho := a5 (top - 1) (by omega) (by omega)
            have q2 := q.2
            rw [← ho.1, kd_op (by omega) (by omega), ← hsp.1] at q2
            omega
          rw [prS, if_neg (by omega), if_neg (fun q => hmis q.2), if_pos (by omega)] at hL
          exact z_zreturn rfl (Or.inl rfl) d_Row_isWhole_71 (hf (fun e => lo_pos (K := K) a3 (show (0 : Int) < 0 + 1 by omega) (hL.trans e)) _)
        · have ho := a5 (top - 1) (by omega) (by omega)
          refine j_aload_n d_Row_isWhole_54 rfl ?_
          refine gf_Row_0_4 f_Row_25 d_Row_isWhole_55 ?_
          refine j_iload_n d_Row_isWhole_58 rfl ?_
          refine z_iconst d_Row_isWhole_59 ?_
          refine z_isub d_Row_isWhole_60 ?_
          refine al_Row_4 d_Row_isWhole_61 (by omega) (by omega) ?_
          refine j_iload d_Row_isWhole_62 rfl ?_
          refine s_call1 d_Row_isWhole_64 c_Row_61 (Nat.le_of_ble_eq_true rfl) (t_Row_kindOf (by first | omega | exact hw _ | exact hx _ _ | assumption) ?_)
          refine z_icmp_eq (t := 72) d_Row_isWhole_67 (by decide) (by first | exact hkd | omega) (by first | exact hkd | omega) (fun h67 => ?_) (fun h67 => ?_)
          · have hkk : kd (K (1 + op (top - 1))) = kd (K (1 + p)) := by rw [← ho.1, kd_op (by omega) (by omega), ← hsp.1]; omega
            refine z_iinc d_Row_isWhole_72 rfl (by decide) ?_
            show SJ _ _ _ _ [_, _, _, _, _, _] _ _ _ _ _
            refine z_iinc d_Row_isWhole_75 rfl (by decide) ?_
            show SJ _ _ _ _ [_, _, _, _, _, _] _ _ _ _ _
            refine j_goto (t := 5) d_Row_isWhole_78 (by decide) ?_
            refine SJ.mask [true, true, true, true, true, false] ?_
            show SJ _ _ _ _ [_, _, _, _, _, none] _ _ _ _ _
            first
            | (rw [prS, if_pos (by omega)] at hL
               exact ih _ (by omega) _ _ _ _ (up op top p) rfl (by omega) (by omega) (by omega) (by omega) (fun j h1 h2 => by
                 by_cases e : j = top
                 · rw [e, up_eq, up_eq]
                   exact ⟨hsp.1, by omega⟩
                 · rw [up_ne e, up_ne e]
                   exact a5 j h1 (by omega)) hL)
            | (rw [prS, if_neg (by omega), if_pos ⟨by omega, by omega, hkk⟩] at hL
               exact ih _ (by omega) _ _ _ _ op rfl (by omega) (by omega) (by omega) (by omega) (fun j h1 h2 => a5 j h1 (by omega)) hL)
            | (rw [prS, if_neg (by omega), if_neg (by omega), if_neg (by omega)] at hL
               exact ih _ (by omega) _ _ _ _ op rfl (by omega) (by omega) (by omega) (by omega) (fun j h1 h2 => a5 j h1 (by omega)) hL)
          · refine z_iconst d_Row_isWhole_70 ?_
            have hmis : ¬ (0 < top ∧ kd (K (1 + op (top - 1))) = kd (K (1 + p))) := by
              intro q
              have ho := a5 (top - 1) (by omega) (by omega)
              have q2 := q.2
              rw [← ho.1, kd_op (by omega) (by omega), ← hsp.1] at q2
              omega
            rw [prS, if_neg (by omega), if_neg (fun q => hmis q.2), if_pos (by omega)] at hL
            exact z_zreturn rfl (Or.inl rfl) d_Row_isWhole_71 (hf (fun e => lo_pos (K := K) a3 (show (0 : Int) < 0 + 1 by omega) (hL.trans e)) _)
      · refine z_if_eq (t := 75) d_Row_isWhole_47 (by decide) (by first | omega | exact hw _ | exact hx _ _ | assumption) (fun _ => ?_) (fun h => absurd h (by decide))
        refine z_iinc d_Row_isWhole_75 rfl (by decide) ?_
        show SJ _ _ _ _ [_, _, _, _, _, _] _ _ _ _ _
        refine j_goto (t := 5) d_Row_isWhole_78 (by decide) ?_
        refine SJ.mask [true, true, true, true, true, false] ?_
        show SJ _ _ _ _ [_, _, _, _, _, none] _ _ _ _ _
        first
        | (rw [prS, if_pos (by omega)] at hL
           exact ih _ (by omega) _ _ _ _ (up op top p) rfl (by omega) (by omega) (by omega) (by omega) (fun j h1 h2 => by
             by_cases e : j = top
             · rw [e, up_eq, up_eq]
               exact ⟨hsp.1, by omega⟩
             · rw [up_ne e, up_ne e]
               exact a5 j h1 (by omega)) hL)
        | (rw [prS, if_neg (by omega), if_pos ⟨by omega, by omega, hkk⟩] at hL
           exact ih _ (by omega) _ _ _ _ op rfl (by omega) (by omega) (by omega) (by omega) (fun j h1 h2 => a5 j h1 (by omega)) hL)
        | (rw [prS, if_neg (by omega), if_neg (by omega), if_neg (by omega)] at hL
           exact ih _ (by omega) _ _ _ _ op rfl (by omega) (by omega) (by omega) (by omega) (fun j h1 h2 => a5 j h1 (by omega)) hL)
theorem t_Row_isWhole {g : Bool} {d : Nat} {Q : List xM → Option Value → Prop} {rn rl rp : Int} {rs rm rd ro : Int → Int} {K : Int → Int} (hR : RI K rn rl rp rs rm rd) {a b : Int} (h0 : 0 ≤ a) (h1 : a ≤ b + 1) (h2 : b < rn) (ht : lo K a (b + 1) = 0 → ∀ rl rp rm rd ro, RI K rn rl rp rs rm rd → Q (W_Row rn rl rp rs rm rd ro) (some (.int (ii 1)))) (hf : ¬ (lo K a (b + 1) = 0) → ∀ rl rp rm rd ro, RI K rn rl rp rs rm rd → Q (W_Row rn rl rp rs rm rd ro) (some (.int (ii 0)))) : CT g m_Row_isWhole (d + 1) [.ref 0, .int (ii a), .int (ii b)] (W_Row rn rl rp rs rm rd ro) 0 0 Q := by
  refine CT.of (by decide) (Nat.le_of_ble_eq_true rfl) ?_
  show SJ _ _ _ _ [some (.ref 0), some (.int (ii a)), some (.int (ii b)), none, none, none] [] _ _ _ _
  obtain ⟨hrn, ⟨hn0, hn1⟩, hrs, hrp, hpu⟩ := id hR
  refine z_iconst d_Row_isWhole_0 ?_
  refine j_istore_n d_Row_isWhole_1 (by decide) ?_
  show SJ _ _ _ _ [_, _, _, _, _, _] _ _ _ _ _
  refine j_iload_n d_Row_isWhole_2 rfl ?_
  refine j_istore d_Row_isWhole_3 (by decide) ?_
  show SJ _ _ _ _ [_, _, _, _, _, _] _ _ _ _ _
  rw [show (b : Int) = b + 1 - 1 by omega]
  refine lp_isWhole (K := K) (a := a) (b := b + 1) (lov := lo K a (b + 1)) h0 (by omega) (fun j j0 j1 => hrs j j0 (by omega)) (fun e ro => ?_) (fun e ro => ?_) _ a 0 ro z0 z0 rfl (by omega) (by omega) (by omega) (by omega) (fun j j0 j1 => by omega) rfl
  · exact ht (by simpa using e) _ _ _ _ _ hR
  · exact hf (by simpa using e) _ _ _ _ _ hR
