def W_GR (fl : Int) (oo : Int) (nx : Int) (tn_ : Int) (pp : Int) (ne : Int) (tc : Int) (sz : Int) (pz : Int) (pn : Int) (kn : Int → Int) (ff : Int → Int) (sc : Int → Int) (ts : Int → Int) (mm : Int → Int) (st : Int → Int) (vl : Int → Int) (by_ : Int → Int) (tk : Int → Int) (ps : Int → Int) (pv : Int → Int) (pw : Int → Int) : List xM := [.inr (2, [.ref 1, .int (ii fl), .ref 9, .int (ii oo), .int (ii nx), .int (ii tn_), .int (ii pp), .int (ii ne)]), .inr (10, [.ref 2, .ref 3, .ref 4, .ref 5, .ref 6, .ref 7, .ref 8, .int (ii tc), .int (ii sz)]), .inl (0, 12, .inl (ia (kn))), .inl (0, 12, .inl (ia (ff))), .inl (0, 12, .inl (ia (sc))), .inl (0, 12, .inl (ia (ts))), .inl (0, 12, .inl (ia (mm))), .inl (0, 436, .inl (ia (st))), .inl (0, 436, .inl (ia (vl))), .inr (9, [.ref 10, .int (ii pz), .ref 11, .ref 12, .ref 13, .int (ii pn), .ref 14]), .inl (0, 400, .inl (ia (by_))), .inl (0, 401, .inl (ia (tk))), .inl (0, 401, .inl (ia (ps))), .inl (0, 401, .inl (ia (pv))), .inl (4, 137, .inl (ia (pw)))]
section WR_GR
variable {g : Bool} {y : xY} {d pc : Nat} {L : List (Option Value)} {zst : List Value} {bc bs : Nat} {Q : List xM → Option Value → Prop} {fl oo nx tn_ pp ne tc sz pz pn : Int} {kn ff sc ts mm st vl by_ tk ps pv pw : Int → Int} 
theorem gf_GR_0_0 {idx : Nat} (hf : x_fs y.1.cls idx 2 0) (hd : decode y.2.1 pc = .ok (.getfield idx, 3)) (kk : SJ g y d (pc + 3) L (.ref 1 :: zst) (W_GR fl oo nx tn_ pp ne tc sz pz pn kn ff sc ts mm st vl by_ tk ps pv pw) bc bs Q) : SJ g y d pc L (.ref 0 :: zst) (W_GR fl oo nx tn_ pp ne tc sz pz pn kn ff sc ts mm st vl by_ tk ps pv pw) bc bs Q := j_getf hd hf rfl rfl kk
theorem gf_GR_0_1 {idx : Nat} (hf : x_fs y.1.cls idx 2 1) (hd : decode y.2.1 pc = .ok (.getfield idx, 3)) (kk : SJ g y d (pc + 3) L (.int (ii fl) :: zst) (W_GR fl oo nx tn_ pp ne tc sz pz pn kn ff sc ts mm st vl by_ tk ps pv pw) bc bs Q) : SJ g y d pc L (.ref 0 :: zst) (W_GR fl oo nx tn_ pp ne tc sz pz pn kn ff sc ts mm st vl by_ tk ps pv pw) bc bs Q := j_getf hd hf rfl rfl kk
theorem pf_GR_0_1 {idx : Nat} {v : Int} (hf : x_fs y.1.cls idx 2 1) (hd : decode y.2.1 pc = .ok (.putfield idx, 3)) (kk : SJ g y d (pc + 3) L zst (W_GR v oo nx tn_ pp ne tc sz pz pn kn ff sc ts mm st vl by_ tk ps pv pw) bc bs Q) : SJ g y d pc L (.int (ii v) :: .ref 0 :: zst) (W_GR fl oo nx tn_ pp ne tc sz pz pn kn ff sc ts mm st vl by_ tk ps pv pw) bc bs Q := j_putf (ci := 2) (k := 1) hd hf ⟨_, rfl, rfl, rfl⟩ rfl (Nat.le_of_ble_eq_true rfl) x_okI kk
theorem gf_GR_0_2 {idx : Nat} (hf : x_fs y.1.cls idx 2 2) (hd : decode y.2.1 pc = .ok (.getfield idx, 3)) (kk : SJ g y d (pc + 3) L (.ref 9 :: zst) (W_GR fl oo nx tn_ pp ne tc sz pz pn kn ff sc ts mm st vl by_ tk ps pv pw) bc bs Q) : SJ g y d pc L (.ref 0 :: zst) (W_GR fl oo nx tn_ pp ne tc sz pz pn kn ff sc ts mm st vl by_ tk ps pv pw) bc bs Q := j_getf hd hf rfl rfl kk
theorem gf_GR_0_3 {idx : Nat} (hf : x_fs y.1.cls idx 2 3) (hd : decode y.2.1 pc = .ok (.getfield idx, 3)) (kk : SJ g y d (pc + 3) L (.int (ii oo) :: zst) (W_GR fl oo nx tn_ pp ne tc sz pz pn kn ff sc ts mm st vl by_ tk ps pv pw) bc bs Q) : SJ g y d pc L (.ref 0 :: zst) (W_GR fl oo nx tn_ pp ne tc sz pz pn kn ff sc ts mm st vl by_ tk ps pv pw) bc bs Q := j_getf hd hf rfl rfl kk
theorem pf_GR_0_3 {idx : Nat} {v : Int} (hf : x_fs y.1.cls idx 2 3) (hd : decode y.2.1 pc = .ok (.putfield idx, 3)) (hv : v = 0 ∨ v = 1) (kk : SJ g y d (pc + 3) L zst (W_GR fl v nx tn_ pp ne tc sz pz pn kn ff sc ts mm st vl by_ tk ps pv pw) bc bs Q) : SJ g y d pc L (.int (ii v) :: .ref 0 :: zst) (W_GR fl oo nx tn_ pp ne tc sz pz pn kn ff sc ts mm st vl by_ tk ps pv pw) bc bs Q := j_putf (ci := 2) (k := 3) hd hf ⟨_, rfl, rfl, rfl⟩ rfl (Nat.le_of_ble_eq_true rfl) (by rcases hv with rfl | rfl; exact x_ok0; exact x_ok1) kk
theorem gf_GR_0_4 {idx : Nat} (hf : x_fs y.1.cls idx 2 4) (hd : decode y.2.1 pc = .ok (.getfield idx, 3)) (kk : SJ g y d (pc + 3) L (.int (ii nx) :: zst) (W_GR fl oo nx tn_ pp ne tc sz pz pn kn ff sc ts mm st vl by_ tk ps pv pw) bc bs Q) : SJ g y d pc L (.ref 0 :: zst) (W_GR fl oo nx tn_ pp ne tc sz pz pn kn ff sc ts mm st vl by_ tk ps pv pw) bc bs Q := j_getf hd hf rfl rfl kk
theorem pf_GR_0_4 {idx : Nat} {v : Int} (hf : x_fs y.1.cls idx 2 4) (hd : decode y.2.1 pc = .ok (.putfield idx, 3)) (kk : SJ g y d (pc + 3) L zst (W_GR fl oo v tn_ pp ne tc sz pz pn kn ff sc ts mm st vl by_ tk ps pv pw) bc bs Q) : SJ g y d pc L (.int (ii v) :: .ref 0 :: zst) (W_GR fl oo nx tn_ pp ne tc sz pz pn kn ff sc ts mm st vl by_ tk ps pv pw) bc bs Q := j_putf (ci := 2) (k := 4) hd hf ⟨_, rfl, rfl, rfl⟩ rfl (Nat.le_of_ble_eq_true rfl) x_okI kk
theorem gf_GR_0_5 {idx : Nat} (hf : x_fs y.1.cls idx 2 5) (hd : decode y.2.1 pc = .ok (.getfield idx, 3)) (kk : SJ g y d (pc + 3) L (.int (ii tn_) :: zst) (W_GR fl oo nx tn_ pp ne tc sz pz pn kn ff sc ts mm st vl by_ tk ps pv pw) bc bs Q) : SJ g y d pc L (.ref 0 :: zst) (W_GR fl oo nx tn_ pp ne tc sz pz pn kn ff sc ts mm st vl by_ tk ps pv pw) bc bs Q := j_getf hd hf rfl rfl kk
theorem pf_GR_0_5 {idx : Nat} {v : Int} (hf : x_fs y.1.cls idx 2 5) (hd : decode y.2.1 pc = .ok (.putfield idx, 3)) (kk : SJ g y d (pc + 3) L zst (W_GR fl oo nx v pp ne tc sz pz pn kn ff sc ts mm st vl by_ tk ps pv pw) bc bs Q) : SJ g y d pc L (.int (ii v) :: .ref 0 :: zst) (W_GR fl oo nx tn_ pp ne tc sz pz pn kn ff sc ts mm st vl by_ tk ps pv pw) bc bs Q := j_putf (ci := 2) (k := 5) hd hf ⟨_, rfl, rfl, rfl⟩ rfl (Nat.le_of_ble_eq_true rfl) x_okI kk
theorem gf_GR_0_6 {idx : Nat} (hf : x_fs y.1.cls idx 2 6) (hd : decode y.2.1 pc = .ok (.getfield idx, 3)) (kk : SJ g y d (pc + 3) L (.int (ii pp) :: zst) (W_GR fl oo nx tn_ pp ne tc sz pz pn kn ff sc ts mm st vl by_ tk ps pv pw) bc bs Q) : SJ g y d pc L (.ref 0 :: zst) (W_GR fl oo nx tn_ pp ne tc sz pz pn kn ff sc ts mm st vl by_ tk ps pv pw) bc bs Q := j_getf hd hf rfl rfl kk
theorem pf_GR_0_6 {idx : Nat} {v : Int} (hf : x_fs y.1.cls idx 2 6) (hd : decode y.2.1 pc = .ok (.putfield idx, 3)) (kk : SJ g y d (pc + 3) L zst (W_GR fl oo nx tn_ v ne tc sz pz pn kn ff sc ts mm st vl by_ tk ps pv pw) bc bs Q) : SJ g y d pc L (.int (ii v) :: .ref 0 :: zst) (W_GR fl oo nx tn_ pp ne tc sz pz pn kn ff sc ts mm st vl by_ tk ps pv pw) bc bs Q := j_putf (ci := 2) (k := 6) hd hf ⟨_, rfl, rfl, rfl⟩ rfl (Nat.le_of_ble_eq_true rfl) x_okI kk
theorem gf_GR_0_7 {idx : Nat} (hf : x_fs y.1.cls idx 2 7) (hd : decode y.2.1 pc = .ok (.getfield idx, 3)) (kk : SJ g y d (pc + 3) L (.int (ii ne) :: zst) (W_GR fl oo nx tn_ pp ne tc sz pz pn kn ff sc ts mm st vl by_ tk ps pv pw) bc bs Q) : SJ g y d pc L (.ref 0 :: zst) (W_GR fl oo nx tn_ pp ne tc sz pz pn kn ff sc ts mm st vl by_ tk ps pv pw) bc bs Q := j_getf hd hf rfl rfl kk
theorem pf_GR_0_7 {idx : Nat} {v : Int} (hf : x_fs y.1.cls idx 2 7) (hd : decode y.2.1 pc = .ok (.putfield idx, 3)) (kk : SJ g y d (pc + 3) L zst (W_GR fl oo nx tn_ pp v tc sz pz pn kn ff sc ts mm st vl by_ tk ps pv pw) bc bs Q) : SJ g y d pc L (.int (ii v) :: .ref 0 :: zst) (W_GR fl oo nx tn_ pp ne tc sz pz pn kn ff sc ts mm st vl by_ tk ps pv pw) bc bs Q := j_putf (ci := 2) (k := 7) hd hf ⟨_, rfl, rfl, rfl⟩ rfl (Nat.le_of_ble_eq_true rfl) x_okI kk
theorem gf_GR_1_0 {idx : Nat} (hf : x_fs y.1.cls idx 10 0) (hd : decode y.2.1 pc = .ok (.getfield idx, 3)) (kk : SJ g y d (pc + 3) L (.ref 2 :: zst) (W_GR fl oo nx tn_ pp ne tc sz pz pn kn ff sc ts mm st vl by_ tk ps pv pw) bc bs Q) : SJ g y d pc L (.ref 1 :: zst) (W_GR fl oo nx tn_ pp ne tc sz pz pn kn ff sc ts mm st vl by_ tk ps pv pw) bc bs Q := j_getf hd hf rfl rfl kk
theorem gf_GR_1_1 {idx : Nat} (hf : x_fs y.1.cls idx 10 1) (hd : decode y.2.1 pc = .ok (.getfield idx, 3)) (kk : SJ g y d (pc + 3) L (.ref 3 :: zst) (W_GR fl oo nx tn_ pp ne tc sz pz pn kn ff sc ts mm st vl by_ tk ps pv pw) bc bs Q) : SJ g y d pc L (.ref 1 :: zst) (W_GR fl oo nx tn_ pp ne tc sz pz pn kn ff sc ts mm st vl by_ tk ps pv pw) bc bs Q := j_getf hd hf rfl rfl kk
theorem gf_GR_1_2 {idx : Nat} (hf : x_fs y.1.cls idx 10 2) (hd : decode y.2.1 pc = .ok (.getfield idx, 3)) (kk : SJ g y d (pc + 3) L (.ref 4 :: zst) (W_GR fl oo nx tn_ pp ne tc sz pz pn kn ff sc ts mm st vl by_ tk ps pv pw) bc bs Q) : SJ g y d pc L (.ref 1 :: zst) (W_GR fl oo nx tn_ pp ne tc sz pz pn kn ff sc ts mm st vl by_ tk ps pv pw) bc bs Q := j_getf hd hf rfl rfl kk
theorem gf_GR_1_3 {idx : Nat} (hf : x_fs y.1.cls idx 10 3) (hd : decode y.2.1 pc = .ok (.getfield idx, 3)) (kk : SJ g y d (pc + 3) L (.ref 5 :: zst) (W_GR fl oo nx tn_ pp ne tc sz pz pn kn ff sc ts mm st vl by_ tk ps pv pw) bc bs Q) : SJ g y d pc L (.ref 1 :: zst) (W_GR fl oo nx tn_ pp ne tc sz pz pn kn ff sc ts mm st vl by_ tk ps pv pw) bc bs Q := j_getf hd hf rfl rfl kk
theorem gf_GR_1_4 {idx : Nat} (hf : x_fs y.1.cls idx 10 4) (hd : decode y.2.1 pc = .ok (.getfield idx, 3)) (kk : SJ g y d (pc + 3) L (.ref 6 :: zst) (W_GR fl oo nx tn_ pp ne tc sz pz pn kn ff sc ts mm st vl by_ tk ps pv pw) bc bs Q) : SJ g y d pc L (.ref 1 :: zst) (W_GR fl oo nx tn_ pp ne tc sz pz pn kn ff sc ts mm st vl by_ tk ps pv pw) bc bs Q := j_getf hd hf rfl rfl kk
theorem gf_GR_1_5 {idx : Nat} (hf : x_fs y.1.cls idx 10 5) (hd : decode y.2.1 pc = .ok (.getfield idx, 3)) (kk : SJ g y d (pc + 3) L (.ref 7 :: zst) (W_GR fl oo nx tn_ pp ne tc sz pz pn kn ff sc ts mm st vl by_ tk ps pv pw) bc bs Q) : SJ g y d pc L (.ref 1 :: zst) (W_GR fl oo nx tn_ pp ne tc sz pz pn kn ff sc ts mm st vl by_ tk ps pv pw) bc bs Q := j_getf hd hf rfl rfl kk
theorem gf_GR_1_6 {idx : Nat} (hf : x_fs y.1.cls idx 10 6) (hd : decode y.2.1 pc = .ok (.getfield idx, 3)) (kk : SJ g y d (pc + 3) L (.ref 8 :: zst) (W_GR fl oo nx tn_ pp ne tc sz pz pn kn ff sc ts mm st vl by_ tk ps pv pw) bc bs Q) : SJ g y d pc L (.ref 1 :: zst) (W_GR fl oo nx tn_ pp ne tc sz pz pn kn ff sc ts mm st vl by_ tk ps pv pw) bc bs Q := j_getf hd hf rfl rfl kk
theorem gf_GR_1_7 {idx : Nat} (hf : x_fs y.1.cls idx 10 7) (hd : decode y.2.1 pc = .ok (.getfield idx, 3)) (kk : SJ g y d (pc + 3) L (.int (ii tc) :: zst) (W_GR fl oo nx tn_ pp ne tc sz pz pn kn ff sc ts mm st vl by_ tk ps pv pw) bc bs Q) : SJ g y d pc L (.ref 1 :: zst) (W_GR fl oo nx tn_ pp ne tc sz pz pn kn ff sc ts mm st vl by_ tk ps pv pw) bc bs Q := j_getf hd hf rfl rfl kk
theorem pf_GR_1_7 {idx : Nat} {v : Int} (hf : x_fs y.1.cls idx 10 7) (hd : decode y.2.1 pc = .ok (.putfield idx, 3)) (kk : SJ g y d (pc + 3) L zst (W_GR fl oo nx tn_ pp ne v sz pz pn kn ff sc ts mm st vl by_ tk ps pv pw) bc bs Q) : SJ g y d pc L (.int (ii v) :: .ref 1 :: zst) (W_GR fl oo nx tn_ pp ne tc sz pz pn kn ff sc ts mm st vl by_ tk ps pv pw) bc bs Q := j_putf (ci := 10) (k := 7) hd hf ⟨_, rfl, rfl, rfl⟩ rfl (Nat.le_of_ble_eq_true rfl) x_okI kk
theorem gf_GR_1_8 {idx : Nat} (hf : x_fs y.1.cls idx 10 8) (hd : decode y.2.1 pc = .ok (.getfield idx, 3)) (kk : SJ g y d (pc + 3) L (.int (ii sz) :: zst) (W_GR fl oo nx tn_ pp ne tc sz pz pn kn ff sc ts mm st vl by_ tk ps pv pw) bc bs Q) : SJ g y d pc L (.ref 1 :: zst) (W_GR fl oo nx tn_ pp ne tc sz pz pn kn ff sc ts mm st vl by_ tk ps pv pw) bc bs Q := j_getf hd hf rfl rfl kk
theorem pf_GR_1_8 {idx : Nat} {v : Int} (hf : x_fs y.1.cls idx 10 8) (hd : decode y.2.1 pc = .ok (.putfield idx, 3)) (kk : SJ g y d (pc + 3) L zst (W_GR fl oo nx tn_ pp ne tc v pz pn kn ff sc ts mm st vl by_ tk ps pv pw) bc bs Q) : SJ g y d pc L (.int (ii v) :: .ref 1 :: zst) (W_GR fl oo nx tn_ pp ne tc sz pz pn kn ff sc ts mm st vl by_ tk ps pv pw) bc bs Q := j_putf (ci := 10) (k := 8) hd hf ⟨_, rfl, rfl, rfl⟩ rfl (Nat.le_of_ble_eq_true rfl) x_okI kk
theorem al_GR_2 {a : Int} (hd : decode y.2.1 pc = .ok (.iaload, 1)) (h0 : 0 ≤ a) (h1 : a < 12) (kk : SJ g y d (pc + 1) L (.int (ii (kn a)) :: zst) (W_GR fl oo nx tn_ pp ne tc sz pz pn kn ff sc ts mm st vl by_ tk ps pv pw) bc bs Q) : SJ g y d pc L (.int (ii a) :: .ref 2 :: zst) (W_GR fl oo nx tn_ pp ne tc sz pz pn kn ff sc ts mm st vl by_ tk ps pv pw) bc bs Q := z_iald hd rfl h0 h1 ⟨by omega, by omega⟩ kk
theorem as_GR_2 {a v : Int} (hd : decode y.2.1 pc = .ok (.iastore, 1)) (h0 : 0 ≤ a) (h1 : a < 12) (kk : SJ g y d (pc + 1) L zst (W_GR fl oo nx tn_ pp ne tc sz pz pn (up kn a v) ff sc ts mm st vl by_ tk ps pv pw) bc bs Q) : SJ g y d pc L (.int (ii v) :: .int (ii a) :: .ref 2 :: zst) (W_GR fl oo nx tn_ pp ne tc sz pz pn kn ff sc ts mm st vl by_ tk ps pv pw) bc bs Q := z_iast hd rfl h0 h1 ⟨by omega, by omega⟩ kk
theorem al_GR_3 {a : Int} (hd : decode y.2.1 pc = .ok (.iaload, 1)) (h0 : 0 ≤ a) (h1 : a < 12) (kk : SJ g y d (pc + 1) L (.int (ii (ff a)) :: zst) (W_GR fl oo nx tn_ pp ne tc sz pz pn kn ff sc ts mm st vl by_ tk ps pv pw) bc bs Q) : SJ g y d pc L (.int (ii a) :: .ref 3 :: zst) (W_GR fl oo nx tn_ pp ne tc sz pz pn kn ff sc ts mm st vl by_ tk ps pv pw) bc bs Q := z_iald hd rfl h0 h1 ⟨by omega, by omega⟩ kk
theorem as_GR_3 {a v : Int} (hd : decode y.2.1 pc = .ok (.iastore, 1)) (h0 : 0 ≤ a) (h1 : a < 12) (kk : SJ g y d (pc + 1) L zst (W_GR fl oo nx tn_ pp ne tc sz pz pn kn (up ff a v) sc ts mm st vl by_ tk ps pv pw) bc bs Q) : SJ g y d pc L (.int (ii v) :: .int (ii a) :: .ref 3 :: zst) (W_GR fl oo nx tn_ pp ne tc sz pz pn kn ff sc ts mm st vl by_ tk ps pv pw) bc bs Q := z_iast hd rfl h0 h1 ⟨by omega, by omega⟩ kk
theorem al_GR_4 {a : Int} (hd : decode y.2.1 pc = .ok (.iaload, 1)) (h0 : 0 ≤ a) (h1 : a < 12) (kk : SJ g y d (pc + 1) L (.int (ii (sc a)) :: zst) (W_GR fl oo nx tn_ pp ne tc sz pz pn kn ff sc ts mm st vl by_ tk ps pv pw) bc bs Q) : SJ g y d pc L (.int (ii a) :: .ref 4 :: zst) (W_GR fl oo nx tn_ pp ne tc sz pz pn kn ff sc ts mm st vl by_ tk ps pv pw) bc bs Q := z_iald hd rfl h0 h1 ⟨by omega, by omega⟩ kk
theorem as_GR_4 {a v : Int} (hd : decode y.2.1 pc = .ok (.iastore, 1)) (h0 : 0 ≤ a) (h1 : a < 12) (kk : SJ g y d (pc + 1) L zst (W_GR fl oo nx tn_ pp ne tc sz pz pn kn ff (up sc a v) ts mm st vl by_ tk ps pv pw) bc bs Q) : SJ g y d pc L (.int (ii v) :: .int (ii a) :: .ref 4 :: zst) (W_GR fl oo nx tn_ pp ne tc sz pz pn kn ff sc ts mm st vl by_ tk ps pv pw) bc bs Q := z_iast hd rfl h0 h1 ⟨by omega, by omega⟩ kk
theorem al_GR_5 {a : Int} (hd : decode y.2.1 pc = .ok (.iaload, 1)) (h0 : 0 ≤ a) (h1 : a < 12) (kk : SJ g y d (pc + 1) L (.int (ii (ts a)) :: zst) (W_GR fl oo nx tn_ pp ne tc sz pz pn kn ff sc ts mm st vl by_ tk ps pv pw) bc bs Q) : SJ g y d pc L (.int (ii a) :: .ref 5 :: zst) (W_GR fl oo nx tn_ pp ne tc sz pz pn kn ff sc ts mm st vl by_ tk ps pv pw) bc bs Q := z_iald hd rfl h0 h1 ⟨by omega, by omega⟩ kk
theorem as_GR_5 {a v : Int} (hd : decode y.2.1 pc = .ok (.iastore, 1)) (h0 : 0 ≤ a) (h1 : a < 12) (kk : SJ g y d (pc + 1) L zst (W_GR fl oo nx tn_ pp ne tc sz pz pn kn ff sc (up ts a v) mm st vl by_ tk ps pv pw) bc bs Q) : SJ g y d pc L (.int (ii v) :: .int (ii a) :: .ref 5 :: zst) (W_GR fl oo nx tn_ pp ne tc sz pz pn kn ff sc ts mm st vl by_ tk ps pv pw) bc bs Q := z_iast hd rfl h0 h1 ⟨by omega, by omega⟩ kk
theorem al_GR_6 {a : Int} (hd : decode y.2.1 pc = .ok (.iaload, 1)) (h0 : 0 ≤ a) (h1 : a < 12) (kk : SJ g y d (pc + 1) L (.int (ii (mm a)) :: zst) (W_GR fl oo nx tn_ pp ne tc sz pz pn kn ff sc ts mm st vl by_ tk ps pv pw) bc bs Q) : SJ g y d pc L (.int (ii a) :: .ref 6 :: zst) (W_GR fl oo nx tn_ pp ne tc sz pz pn kn ff sc ts mm st vl by_ tk ps pv pw) bc bs Q := z_iald hd rfl h0 h1 ⟨by omega, by omega⟩ kk
theorem as_GR_6 {a v : Int} (hd : decode y.2.1 pc = .ok (.iastore, 1)) (h0 : 0 ≤ a) (h1 : a < 12) (kk : SJ g y d (pc + 1) L zst (W_GR fl oo nx tn_ pp ne tc sz pz pn kn ff sc ts (up mm a v) st vl by_ tk ps pv pw) bc bs Q) : SJ g y d pc L (.int (ii v) :: .int (ii a) :: .ref 6 :: zst) (W_GR fl oo nx tn_ pp ne tc sz pz pn kn ff sc ts mm st vl by_ tk ps pv pw) bc bs Q := z_iast hd rfl h0 h1 ⟨by omega, by omega⟩ kk
theorem al_GR_7 {a : Int} (hd : decode y.2.1 pc = .ok (.iaload, 1)) (h0 : 0 ≤ a) (h1 : a < 436) (kk : SJ g y d (pc + 1) L (.int (ii (st a)) :: zst) (W_GR fl oo nx tn_ pp ne tc sz pz pn kn ff sc ts mm st vl by_ tk ps pv pw) bc bs Q) : SJ g y d pc L (.int (ii a) :: .ref 7 :: zst) (W_GR fl oo nx tn_ pp ne tc sz pz pn kn ff sc ts mm st vl by_ tk ps pv pw) bc bs Q := z_iald hd rfl h0 h1 ⟨by omega, by omega⟩ kk
theorem as_GR_7 {a v : Int} (hd : decode y.2.1 pc = .ok (.iastore, 1)) (h0 : 0 ≤ a) (h1 : a < 436) (kk : SJ g y d (pc + 1) L zst (W_GR fl oo nx tn_ pp ne tc sz pz pn kn ff sc ts mm (up st a v) vl by_ tk ps pv pw) bc bs Q) : SJ g y d pc L (.int (ii v) :: .int (ii a) :: .ref 7 :: zst) (W_GR fl oo nx tn_ pp ne tc sz pz pn kn ff sc ts mm st vl by_ tk ps pv pw) bc bs Q := z_iast hd rfl h0 h1 ⟨by omega, by omega⟩ kk
theorem al_GR_8 {a : Int} (hd : decode y.2.1 pc = .ok (.iaload, 1)) (h0 : 0 ≤ a) (h1 : a < 436) (kk : SJ g y d (pc + 1) L (.int (ii (vl a)) :: zst) (W_GR fl oo nx tn_ pp ne tc sz pz pn kn ff sc ts mm st vl by_ tk ps pv pw) bc bs Q) : SJ g y d pc L (.int (ii a) :: .ref 8 :: zst) (W_GR fl oo nx tn_ pp ne tc sz pz pn kn ff sc ts mm st vl by_ tk ps pv pw) bc bs Q := z_iald hd rfl h0 h1 ⟨by omega, by omega⟩ kk
theorem as_GR_8 {a v : Int} (hd : decode y.2.1 pc = .ok (.iastore, 1)) (h0 : 0 ≤ a) (h1 : a < 436) (kk : SJ g y d (pc + 1) L zst (W_GR fl oo nx tn_ pp ne tc sz pz pn kn ff sc ts mm st (up vl a v) by_ tk ps pv pw) bc bs Q) : SJ g y d pc L (.int (ii v) :: .int (ii a) :: .ref 8 :: zst) (W_GR fl oo nx tn_ pp ne tc sz pz pn kn ff sc ts mm st vl by_ tk ps pv pw) bc bs Q := z_iast hd rfl h0 h1 ⟨by omega, by omega⟩ kk
theorem gf_GR_9_0 {idx : Nat} (hf : x_fs y.1.cls idx 9 0) (hd : decode y.2.1 pc = .ok (.getfield idx, 3)) (kk : SJ g y d (pc + 3) L (.ref 10 :: zst) (W_GR fl oo nx tn_ pp ne tc sz pz pn kn ff sc ts mm st vl by_ tk ps pv pw) bc bs Q) : SJ g y d pc L (.ref 9 :: zst) (W_GR fl oo nx tn_ pp ne tc sz pz pn kn ff sc ts mm st vl by_ tk ps pv pw) bc bs Q := j_getf hd hf rfl rfl kk
theorem gf_GR_9_1 {idx : Nat} (hf : x_fs y.1.cls idx 9 1) (hd : decode y.2.1 pc = .ok (.getfield idx, 3)) (kk : SJ g y d (pc + 3) L (.int (ii pz) :: zst) (W_GR fl oo nx tn_ pp ne tc sz pz pn kn ff sc ts mm st vl by_ tk ps pv pw) bc bs Q) : SJ g y d pc L (.ref 9 :: zst) (W_GR fl oo nx tn_ pp ne tc sz pz pn kn ff sc ts mm st vl by_ tk ps pv pw) bc bs Q := j_getf hd hf rfl rfl kk
theorem pf_GR_9_1 {idx : Nat} {v : Int} (hf : x_fs y.1.cls idx 9 1) (hd : decode y.2.1 pc = .ok (.putfield idx, 3)) (kk : SJ g y d (pc + 3) L zst (W_GR fl oo nx tn_ pp ne tc sz v pn kn ff sc ts mm st vl by_ tk ps pv pw) bc bs Q) : SJ g y d pc L (.int (ii v) :: .ref 9 :: zst) (W_GR fl oo nx tn_ pp ne tc sz pz pn kn ff sc ts mm st vl by_ tk ps pv pw) bc bs Q := j_putf (ci := 9) (k := 1) hd hf ⟨_, rfl, rfl, rfl⟩ rfl (Nat.le_of_ble_eq_true rfl) x_okI kk
theorem gf_GR_9_2 {idx : Nat} (hf : x_fs y.1.cls idx 9 2) (hd : decode y.2.1 pc = .ok (.getfield idx, 3)) (kk : SJ g y d (pc + 3) L (.ref 11 :: zst) (W_GR fl oo nx tn_ pp ne tc sz pz pn kn ff sc ts mm st vl by_ tk ps pv pw) bc bs Q) : SJ g y d pc L (.ref 9 :: zst) (W_GR fl oo nx tn_ pp ne tc sz pz pn kn ff sc ts mm st vl by_ tk ps pv pw) bc bs Q := j_getf hd hf rfl rfl kk
theorem gf_GR_9_3 {idx : Nat} (hf : x_fs y.1.cls idx 9 3) (hd : decode y.2.1 pc = .ok (.getfield idx, 3)) (kk : SJ g y d (pc + 3) L (.ref 12 :: zst) (W_GR fl oo nx tn_ pp ne tc sz pz pn kn ff sc ts mm st vl by_ tk ps pv pw) bc bs Q) : SJ g y d pc L (.ref 9 :: zst) (W_GR fl oo nx tn_ pp ne tc sz pz pn kn ff sc ts mm st vl by_ tk ps pv pw) bc bs Q := j_getf hd hf rfl rfl kk
theorem gf_GR_9_4 {idx : Nat} (hf : x_fs y.1.cls idx 9 4) (hd : decode y.2.1 pc = .ok (.getfield idx, 3)) (kk : SJ g y d (pc + 3) L (.ref 13 :: zst) (W_GR fl oo nx tn_ pp ne tc sz pz pn kn ff sc ts mm st vl by_ tk ps pv pw) bc bs Q) : SJ g y d pc L (.ref 9 :: zst) (W_GR fl oo nx tn_ pp ne tc sz pz pn kn ff sc ts mm st vl by_ tk ps pv pw) bc bs Q := j_getf hd hf rfl rfl kk
theorem gf_GR_9_5 {idx : Nat} (hf : x_fs y.1.cls idx 9 5) (hd : decode y.2.1 pc = .ok (.getfield idx, 3)) (kk : SJ g y d (pc + 3) L (.int (ii pn) :: zst) (W_GR fl oo nx tn_ pp ne tc sz pz pn kn ff sc ts mm st vl by_ tk ps pv pw) bc bs Q) : SJ g y d pc L (.ref 9 :: zst) (W_GR fl oo nx tn_ pp ne tc sz pz pn kn ff sc ts mm st vl by_ tk ps pv pw) bc bs Q := j_getf hd hf rfl rfl kk
theorem pf_GR_9_5 {idx : Nat} {v : Int} (hf : x_fs y.1.cls idx 9 5) (hd : decode y.2.1 pc = .ok (.putfield idx, 3)) (kk : SJ g y d (pc + 3) L zst (W_GR fl oo nx tn_ pp ne tc sz pz v kn ff sc ts mm st vl by_ tk ps pv pw) bc bs Q) : SJ g y d pc L (.int (ii v) :: .ref 9 :: zst) (W_GR fl oo nx tn_ pp ne tc sz pz pn kn ff sc ts mm st vl by_ tk ps pv pw) bc bs Q := j_putf (ci := 9) (k := 5) hd hf ⟨_, rfl, rfl, rfl⟩ rfl (Nat.le_of_ble_eq_true rfl) x_okI kk
theorem gf_GR_9_6 {idx : Nat} (hf : x_fs y.1.cls idx 9 6) (hd : decode y.2.1 pc = .ok (.getfield idx, 3)) (kk : SJ g y d (pc + 3) L (.ref 14 :: zst) (W_GR fl oo nx tn_ pp ne tc sz pz pn kn ff sc ts mm st vl by_ tk ps pv pw) bc bs Q) : SJ g y d pc L (.ref 9 :: zst) (W_GR fl oo nx tn_ pp ne tc sz pz pn kn ff sc ts mm st vl by_ tk ps pv pw) bc bs Q := j_getf hd hf rfl rfl kk
theorem al_GR_10 {a : Int} (hd : decode y.2.1 pc = .ok (.iaload, 1)) (h0 : 0 ≤ a) (h1 : a < 400) (kk : SJ g y d (pc + 1) L (.int (ii (by_ a)) :: zst) (W_GR fl oo nx tn_ pp ne tc sz pz pn kn ff sc ts mm st vl by_ tk ps pv pw) bc bs Q) : SJ g y d pc L (.int (ii a) :: .ref 10 :: zst) (W_GR fl oo nx tn_ pp ne tc sz pz pn kn ff sc ts mm st vl by_ tk ps pv pw) bc bs Q := z_iald hd rfl h0 h1 ⟨by omega, by omega⟩ kk
theorem as_GR_10 {a v : Int} (hd : decode y.2.1 pc = .ok (.iastore, 1)) (h0 : 0 ≤ a) (h1 : a < 400) (kk : SJ g y d (pc + 1) L zst (W_GR fl oo nx tn_ pp ne tc sz pz pn kn ff sc ts mm st vl (up by_ a v) tk ps pv pw) bc bs Q) : SJ g y d pc L (.int (ii v) :: .int (ii a) :: .ref 10 :: zst) (W_GR fl oo nx tn_ pp ne tc sz pz pn kn ff sc ts mm st vl by_ tk ps pv pw) bc bs Q := z_iast hd rfl h0 h1 ⟨by omega, by omega⟩ kk
theorem al_GR_11 {a : Int} (hd : decode y.2.1 pc = .ok (.iaload, 1)) (h0 : 0 ≤ a) (h1 : a < 401) (kk : SJ g y d (pc + 1) L (.int (ii (tk a)) :: zst) (W_GR fl oo nx tn_ pp ne tc sz pz pn kn ff sc ts mm st vl by_ tk ps pv pw) bc bs Q) : SJ g y d pc L (.int (ii a) :: .ref 11 :: zst) (W_GR fl oo nx tn_ pp ne tc sz pz pn kn ff sc ts mm st vl by_ tk ps pv pw) bc bs Q := z_iald hd rfl h0 h1 ⟨by omega, by omega⟩ kk
theorem as_GR_11 {a v : Int} (hd : decode y.2.1 pc = .ok (.iastore, 1)) (h0 : 0 ≤ a) (h1 : a < 401) (kk : SJ g y d (pc + 1) L zst (W_GR fl oo nx tn_ pp ne tc sz pz pn kn ff sc ts mm st vl by_ (up tk a v) ps pv pw) bc bs Q) : SJ g y d pc L (.int (ii v) :: .int (ii a) :: .ref 11 :: zst) (W_GR fl oo nx tn_ pp ne tc sz pz pn kn ff sc ts mm st vl by_ tk ps pv pw) bc bs Q := z_iast hd rfl h0 h1 ⟨by omega, by omega⟩ kk
theorem al_GR_12 {a : Int} (hd : decode y.2.1 pc = .ok (.iaload, 1)) (h0 : 0 ≤ a) (h1 : a < 401) (kk : SJ g y d (pc + 1) L (.int (ii (ps a)) :: zst) (W_GR fl oo nx tn_ pp ne tc sz pz pn kn ff sc ts mm st vl by_ tk ps pv pw) bc bs Q) : SJ g y d pc L (.int (ii a) :: .ref 12 :: zst) (W_GR fl oo nx tn_ pp ne tc sz pz pn kn ff sc ts mm st vl by_ tk ps pv pw) bc bs Q := z_iald hd rfl h0 h1 ⟨by omega, by omega⟩ kk
theorem as_GR_12 {a v : Int} (hd : decode y.2.1 pc = .ok (.iastore, 1)) (h0 : 0 ≤ a) (h1 : a < 401) (kk : SJ g y d (pc + 1) L zst (W_GR fl oo nx tn_ pp ne tc sz pz pn kn ff sc ts mm st vl by_ tk (up ps a v) pv pw) bc bs Q) : SJ g y d pc L (.int (ii v) :: .int (ii a) :: .ref 12 :: zst) (W_GR fl oo nx tn_ pp ne tc sz pz pn kn ff sc ts mm st vl by_ tk ps pv pw) bc bs Q := z_iast hd rfl h0 h1 ⟨by omega, by omega⟩ kk
theorem al_GR_13 {a : Int} (hd : decode y.2.1 pc = .ok (.iaload, 1)) (h0 : 0 ≤ a) (h1 : a < 401) (kk : SJ g y d (pc + 1) L (.int (ii (pv a)) :: zst) (W_GR fl oo nx tn_ pp ne tc sz pz pn kn ff sc ts mm st vl by_ tk ps pv pw) bc bs Q) : SJ g y d pc L (.int (ii a) :: .ref 13 :: zst) (W_GR fl oo nx tn_ pp ne tc sz pz pn kn ff sc ts mm st vl by_ tk ps pv pw) bc bs Q := z_iald hd rfl h0 h1 ⟨by omega, by omega⟩ kk
theorem as_GR_13 {a v : Int} (hd : decode y.2.1 pc = .ok (.iastore, 1)) (h0 : 0 ≤ a) (h1 : a < 401) (kk : SJ g y d (pc + 1) L zst (W_GR fl oo nx tn_ pp ne tc sz pz pn kn ff sc ts mm st vl by_ tk ps (up pv a v) pw) bc bs Q) : SJ g y d pc L (.int (ii v) :: .int (ii a) :: .ref 13 :: zst) (W_GR fl oo nx tn_ pp ne tc sz pz pn kn ff sc ts mm st vl by_ tk ps pv pw) bc bs Q := z_iast hd rfl h0 h1 ⟨by omega, by omega⟩ kk
theorem al_GR_14 {a : Int} (hd : decode y.2.1 pc = .ok (.caload, 1)) (h0 : 0 ≤ a) (h1 : a < 137) (kk : SJ g y d (pc + 1) L (.int (ii (pw a)) :: zst) (W_GR fl oo nx tn_ pp ne tc sz pz pn kn ff sc ts mm st vl by_ tk ps pv pw) bc bs Q) : SJ g y d pc L (.int (ii a) :: .ref 14 :: zst) (W_GR fl oo nx tn_ pp ne tc sz pz pn kn ff sc ts mm st vl by_ tk ps pv pw) bc bs Q := z_cald hd rfl h0 h1 ⟨by omega, by omega⟩ kk
end WR_GR
section PPR
variable {C V : Int → Int} {io fw lw tk lv : Int} {S : Int → Int → PR SXC}
theorem pP_num (c : C tk = 50) (v : V tk ≤ 1000) (l : lv ≠ 50) : pP C V io fw lw S tk lv = .inl (nmX (V tk), tk + 1, lv + 1) := by
  unfold pP
  rw [if_neg (by omega), if_pos (Or.inl ⟨c, v⟩), if_neg l, if_neg (by omega), if_pos c]
theorem pP_word (hio : (io = 0 ∧ fw = 9 ∧ lw = 16) ∨ (io = 1 ∧ fw = 14 ∧ lw = 20)) (h1 : fw ≤ C tk ∧ C tk ≤ lw) (l : lv ≠ 50) (hn : ¬ (io = 1 ∧ (C tk = 14 ∨ C tk = 20))) : pP C V io fw lw S tk lv = .inl (wdX (C tk), tk + 1, lv + 1) := by
  unfold pP
  rw [if_neg (by omega), if_pos (Or.inr h1), if_neg l, if_neg hn, if_neg (by omega)]
theorem pP_place (hio : (io = 0 ∧ fw = 9 ∧ lw = 16) ∨ (io = 1 ∧ fw = 14 ∧ lw = 20)) (h1 : io = 1 ∧ (C tk = 14 ∨ C tk = 20)) (l : lv ≠ 50) (h5 : C (tk + 1) = 50 ∧ 0 ≤ V (tk + 1) ∧ V (tk + 1) ≤ 19) : pP C V io fw lw S tk lv = .inl (plX (C tk) (V (tk + 1)), tk + 2, lv + 1) := by
  unfold pP
  rw [if_neg (by omega), if_pos (Or.inr (by omega)), if_neg l, if_pos h1, if_pos h5]
theorem pP_placeN (hio : (io = 0 ∧ fw = 9 ∧ lw = 16) ∨ (io = 1 ∧ fw = 14 ∧ lw = 20)) (h1 : io = 1 ∧ (C tk = 14 ∨ C tk = 20)) (l : lv ≠ 50) (h5 : ¬ (C (tk + 1) = 50 ∧ 0 ≤ V (tk + 1) ∧ V (tk + 1) ≤ 19)) : pP C V io fw lw S tk lv = .inr (tk + 1) := by
  unfold pP
  rw [if_neg (by omega), if_pos (Or.inr (by omega)), if_neg l, if_pos h1, if_neg h5]
theorem pP_full (h : C tk ≠ 191) (l : lv = 50) : pP C V io fw lw S tk lv = .inr tk := by
  unfold pP
  rw [if_neg h]
  split
  · first | rfl | rw [if_pos l]
  · rfl
theorem pP_none (h : C tk ≠ 191) (h1 : ¬ (C tk = 50 ∧ V tk ≤ 1000)) (h2 : ¬ (fw ≤ C tk ∧ C tk ≤ lw)) : pP C V io fw lw S tk lv = .inr tk := by
  unfold pP
  rw [if_neg h, if_neg (fun q => q.elim h1 h2)]
theorem pP_br {a : SXC} {t l : Int} (h : C tk = 191) (e : S (tk + 1) lv = .inl (a, t, l)) (h2 : C t = 193) : pP C V io fw lw S tk lv = .inl (a, t + 1, l) := by
  unfold pP
  rw [if_pos h, e]
  exact if_pos h2
theorem pP_brN {a : SXC} {t l : Int} (h : C tk = 191) (e : S (tk + 1) lv = .inl (a, t, l)) (h2 : ¬ C t = 193) : pP C V io fw lw S tk lv = .inr t := by
  unfold pP
  rw [if_pos h, e]
  exact if_neg h2
theorem pP_brE {t : Int} (h : C tk = 191) (e : S (tk + 1) lv = .inr t) : pP C V io fw lw S tk lv = .inr t := by
  unfold pP
  rw [if_pos h, e]
end PPR
theorem pLp_st {α : Type} {C : Int → Int} {P : Int → Int → PR α} {isop : Int → Prop} [DecidablePred isop] {mk : Int → α → α → α} {k : Nat} {e : α} {tk lv : Int} (h : ¬ isop (C tk)) : pLp C P isop mk (k + 1) e tk lv = .inl (e, tk, lv) := if_neg h
theorem pLp_go {α : Type} {C : Int → Int} {P : Int → Int → PR α} {isop : Int → Prop} [DecidablePred isop] {mk : Int → α → α → α} {k : Nat} {e : α} {tk lv : Int} {a : α} {t l : Int} (h : isop (C tk)) (hq : P (tk + 1) lv = .inl (a, t, l)) : pLp C P isop mk (k + 1) e tk lv = pLp C P isop mk k (mk (C tk) e a) t l := by
  rw [pLp, if_pos h, hq]
theorem pLp_er {α : Type} {C : Int → Int} {P : Int → Int → PR α} {isop : Int → Prop} [DecidablePred isop] {mk : Int → α → α → α} {k : Nat} {e : α} {tk lv : Int} {t : Int} (h : isop (C tk)) (hq : P (tk + 1) lv = .inr t) : pLp C P isop mk (k + 1) e tk lv = .inr t := by
  rw [pLp, if_pos h, hq]
theorem pLV_er {α : Type} {C : Int → Int} {P : Int → Int → PR α} {isop : Int → Prop} [DecidablePred isop] {mk : Int → α → α → α} {tk lv : Int} {t : Int} (hq : P tk lv = .inr t) : pLV C P isop mk tk lv = .inr t := by
  unfold pLV
  rw [hq]
theorem pLV_go {α : Type} {C : Int → Int} {P : Int → Int → PR α} {isop : Int → Prop} [DecidablePred isop] {mk : Int → α → α → α} {tk lv : Int} {a : α} {t l : Int} (hq : P tk lv = .inl (a, t, l)) : pLV C P isop mk tk lv = pLp C P isop mk 401 a t l := by
  unfold pLV
  rw [hq]
def MGS (g : Bool) (y : xY) (dd : Nat) (ne fl oo tc pz pn : Int) (kn ff sc ts mm by_ tk ps pv pw C : Int → Int) (N : Int) (P_ : Int → Int → PR SXC) : Prop := ∀ (ti lv z : Int) (st vl : Int → Int) (Q : List xM → Option Value → Prop), 1 ≤ ti → ti ≤ N → 0 ≤ lv → lv ≤ 50 → 0 ≤ z → z ≤ ti → (∀ (a : SXC) (t l : Int) (st_ vl_ : Int → Int), P_ ti lv = .inl (a, t, l) → At st_ vl_ z (a.2) → (∀ j, j < z → st_ j = st j ∧ vl_ j = vl j) → ((a.2).length : Int) ≤ t - ti → Q (W_GR fl oo t (tkF C N t) l ne tc (z + ((a.2).length : Int)) pz pn kn ff sc ts mm st_ vl_ by_ tk ps pv pw) (some (.int (ii 1)))) → (∀ (t : Int), P_ ti lv = .inr t → ∀ (nx_ tn_ pp_ ne_ sz_ : Int) (st_ vl_ : Int → Int), Q (W_GR (ps t) oo nx_ tn_ pp_ ne_ tc sz_ pz pn kn ff sc ts mm st_ vl_ by_ tk ps pv pw) (some (.int (ii 0)))) → CT g y dd [.ref 0] (W_GR fl oo ti (tkF C N ti) lv ne tc z pz pn kn ff sc ts mm st vl by_ tk ps pv pw) 0 0 Q
def MGT (g : Bool) (y : xY) (dd : Nat) (ne fl oo tc pz pn : Int) (kn ff sc ts mm by_ tk ps pv pw C : Int → Int) (N : Int) (P_ : Int → Int → PR TXC) : Prop := ∀ (ti lv z : Int) (st vl : Int → Int) (Q : List xM → Option Value → Prop), 1 ≤ ti → ti ≤ N → 0 ≤ lv → lv ≤ 50 → 0 ≤ z → z ≤ ti → (∀ (a : TXC) (t l : Int) (st_ vl_ : Int → Int), P_ ti lv = .inl (a, t, l) → At st_ vl_ z (a.2 z) → (∀ j, j < z → st_ j = st j ∧ vl_ j = vl j) → ((a.2 z).length : Int) ≤ t - ti → Q (W_GR fl oo t (tkF C N t) l ne tc (z + ((a.2 z).length : Int)) pz pn kn ff sc ts mm st_ vl_ by_ tk ps pv pw) (some (.int (ii 1)))) → (∀ (t : Int), P_ ti lv = .inr t → ∀ (nx_ tn_ pp_ ne_ sz_ : Int) (st_ vl_ : Int → Int), Q (W_GR (ps t) oo nx_ tn_ pp_ ne_ tc sz_ pz pn kn ff sc ts mm st_ vl_ by_ tk ps pv pw) (some (.int (ii 0)))) → CT g y dd [.ref 0] (W_GR fl oo ti (tkF C N ti) lv ne tc z pz pn kn ff sc ts mm st vl by_ tk ps pv pw) 0 0 Q
theorem t_Tex_clear {g : Bool} {d : Nat} {Q : List xM → Option Value → Prop} {fl oo nx tn_ pp ne tc sz pz pn : Int} {kn ff sc ts mm st vl by_ tk ps pv pw : Int → Int} (hQ : Q (W_GR fl oo nx tn_ pp ne 0 0 pz pn kn ff sc ts mm st vl by_ tk ps pv pw) none) : CT g m_Tex_clear d [.ref 1] (W_GR fl oo nx tn_ pp ne tc sz pz pn kn ff sc ts mm st vl by_ tk ps pv pw) 0 0 Q := by
  refine CT.of (by decide) (Nat.le_of_ble_eq_true rfl) ?_
  show SJ _ _ _ _ [some (.ref 1)] [] _ _ _ _
  refine j_aload_n d_Tex_clear_0 rfl ?_
  refine z_iconst d_Tex_clear_1 ?_
  refine pf_GR_1_7 f_Tex_9 d_Tex_clear_2 ?_
  refine j_aload_n d_Tex_clear_5 rfl ?_
  refine z_iconst d_Tex_clear_6 ?_
  refine pf_GR_1_8 f_Tex_15 d_Tex_clear_7 ?_
  exact j_return rfl d_Tex_clear_10 hQ
theorem t_Tex_addStep {g : Bool} {d : Nat} {Q : List xM → Option Value → Prop} {fl oo nx tn_ pp ne tc sz pz pn : Int} {kn ff sc ts mm st vl by_ tk ps pv pw : Int → Int} (z0_ : 0 ≤ sz) (z1_ : sz < 436) {sa sb : Int} (hQ : Q (W_GR fl oo nx tn_ pp ne tc (sz + 1) pz pn kn ff sc ts mm (up st sz sa) (up vl sz sb) by_ tk ps pv pw) (some (.int (ii sz)))) : CT g m_Tex_addStep d [.ref 1, .int (ii sa), .int (ii sb)] (W_GR fl oo nx tn_ pp ne tc sz pz pn kn ff sc ts mm st vl by_ tk ps pv pw) 0 0 Q := by
  refine CT.of (by decide) (Nat.le_of_ble_eq_true rfl) ?_
  show SJ _ _ _ _ [some (.ref 1), some (.int (ii sa)), some (.int (ii sb)), none] [] _ _ _ _
  refine j_aload_n d_Tex_addStep_0 rfl ?_
  refine gf_GR_1_8 f_Tex_15 d_Tex_addStep_1 ?_
  refine j_aload_n d_Tex_addStep_4 rfl ?_
  refine gf_GR_1_5 f_Tex_34 d_Tex_addStep_5 ?_
  refine j_alen d_Tex_addStep_8 rfl (by decide) (show Int32.ofNat 436 = ii 436 by decide) ?_
  refine z_icmp_ge (t := 19) d_Tex_addStep_9 (by decide) (by first | omega | exact hw _ | exact hx _ _ | assumption) (by first | omega | exact hw _ | exact hx _ _ | assumption) (fun h9 => ?_) (fun h9 => ?_)
  · exfalso
    omega
  · refine j_aload_n d_Tex_addStep_12 rfl ?_
    refine gf_GR_1_8 f_Tex_15 d_Tex_addStep_13 ?_
    refine j_goto (t := 26) d_Tex_addStep_16 (by decide) ?_
    refine j_istore_n d_Tex_addStep_26 (by decide) ?_
    show SJ _ _ _ _ [_, _, _, _] _ _ _ _ _
    refine j_aload_n d_Tex_addStep_27 rfl ?_
    refine gf_GR_1_5 f_Tex_34 d_Tex_addStep_28 ?_
    refine j_iload_n d_Tex_addStep_31 rfl ?_
    refine j_iload_n d_Tex_addStep_32 rfl ?_
    refine as_GR_7 d_Tex_addStep_33 (by omega) (by omega) ?_
    refine j_aload_n d_Tex_addStep_34 rfl ?_
    refine gf_GR_1_6 f_Tex_37 d_Tex_addStep_35 ?_
    refine j_iload_n d_Tex_addStep_38 rfl ?_
    refine j_iload_n d_Tex_addStep_39 rfl ?_
    refine as_GR_8 d_Tex_addStep_40 (by omega) (by omega) ?_
    refine j_aload_n d_Tex_addStep_41 rfl ?_
    refine j_iload_n d_Tex_addStep_42 rfl ?_
    refine z_iconst d_Tex_addStep_43 ?_
    refine z_iadd d_Tex_addStep_44 ?_
    refine pf_GR_1_8 f_Tex_15 d_Tex_addStep_45 ?_
    refine j_iload_n d_Tex_addStep_48 rfl ?_
    exact z_iret rfl d_Tex_addStep_49 (by first | rfl | omega | simp_all) hQ
theorem t_Tex_addClause {g : Bool} {d : Nat} {Q : List xM → Option Value → Prop} {fl oo nx tn_ pp ne tc sz pz pn : Int} {kn ff sc ts mm st vl by_ tk ps pv pw : Int → Int} (c0_ : 0 ≤ tc) (c1_ : tc < 12) {sa : Int} (hQ : Q (W_GR fl oo nx tn_ pp ne (tc + 1) sz pz pn (up kn tc sa) (up ff tc (-1)) (up sc tc (-1)) (up ts tc (-1)) (up mm tc 1) st vl by_ tk ps pv pw) (some (.int (ii tc)))) : CT g m_Tex_addClause d [.ref 1, .int (ii sa)] (W_GR fl oo nx tn_ pp ne tc sz pz pn kn ff sc ts mm st vl by_ tk ps pv pw) 0 0 Q := by
  refine CT.of (by decide) (Nat.le_of_ble_eq_true rfl) ?_
  show SJ _ _ _ _ [some (.ref 1), some (.int (ii sa)), none] [] _ _ _ _
  refine j_aload_n d_Tex_addClause_0 rfl ?_
  refine gf_GR_1_7 f_Tex_9 d_Tex_addClause_1 ?_
  refine j_istore_n d_Tex_addClause_4 (by decide) ?_
  show SJ _ _ _ _ [_, _, _] _ _ _ _ _
  refine j_aload_n d_Tex_addClause_5 rfl ?_
  refine gf_GR_1_0 f_Tex_18 d_Tex_addClause_6 ?_
  refine j_iload_n d_Tex_addClause_9 rfl ?_
  refine j_iload_n d_Tex_addClause_10 rfl ?_
  refine as_GR_2 d_Tex_addClause_11 (by omega) (by omega) ?_
  refine j_aload_n d_Tex_addClause_12 rfl ?_
  refine gf_GR_1_1 f_Tex_22 d_Tex_addClause_13 ?_
  refine j_iload_n d_Tex_addClause_16 rfl ?_
  refine z_iconst d_Tex_addClause_17 ?_
  refine as_GR_3 d_Tex_addClause_18 (by omega) (by omega) ?_
  refine j_aload_n d_Tex_addClause_19 rfl ?_
  refine gf_GR_1_2 f_Tex_25 d_Tex_addClause_20 ?_
  refine j_iload_n d_Tex_addClause_23 rfl ?_
  refine z_iconst d_Tex_addClause_24 ?_
  refine as_GR_4 d_Tex_addClause_25 (by omega) (by omega) ?_
  refine j_aload_n d_Tex_addClause_26 rfl ?_
  refine gf_GR_1_3 f_Tex_28 d_Tex_addClause_27 ?_
  refine j_iload_n d_Tex_addClause_30 rfl ?_
  refine z_iconst d_Tex_addClause_31 ?_
  refine as_GR_5 d_Tex_addClause_32 (by omega) (by omega) ?_
  refine j_aload_n d_Tex_addClause_33 rfl ?_
  refine gf_GR_1_4 f_Tex_31 d_Tex_addClause_34 ?_
  refine j_iload_n d_Tex_addClause_37 rfl ?_
  refine z_iconst d_Tex_addClause_38 ?_
  refine as_GR_6 d_Tex_addClause_39 (by omega) (by omega) ?_
  refine j_aload_n d_Tex_addClause_40 rfl ?_
  refine j_dup d_Tex_addClause_41 rfl ?_
  refine gf_GR_1_7 f_Tex_9 d_Tex_addClause_42 ?_
  refine z_iconst d_Tex_addClause_45 ?_
  refine z_iadd d_Tex_addClause_46 ?_
  refine pf_GR_1_7 f_Tex_9 d_Tex_addClause_47 ?_
  refine j_iload_n d_Tex_addClause_50 rfl ?_
  exact z_iret rfl d_Tex_addClause_51 (by first | rfl | omega | simp_all) hQ
theorem t_Gra_advance {g : Bool} {d : Nat} {Q : List xM → Option Value → Prop} {fl oo tn_ pp ne tc sz pz pn : Int} {kn ff sc ts mm st vl by_ tk ps pv pw : Int → Int} {C V : Int → Int} {N : Int} (hT : TkH C V N tk pv) (hpn : pn = N + 1) {ti : Int} (j0 : 0 ≤ ti) (j1 : ti < N) (hQ : Q (W_GR fl oo (ti + 1) (tkF C N (ti + 1)) pp ne tc sz pz pn kn ff sc ts mm st vl by_ tk ps pv pw) none) : CT g m_Gra_advance d [.ref 0] (W_GR fl oo ti tn_ pp ne tc sz pz pn kn ff sc ts mm st vl by_ tk ps pv pw) 0 0 Q := by
  refine CT.of (by decide) (Nat.le_of_ble_eq_true rfl) ?_
  show SJ _ _ _ _ [some (.ref 0)] [] _ _ _ _
  have hN := hT.1
  refine j_aload_n d_Gra_advance_0 rfl ?_
  refine gf_GR_0_4 f_Gra_26 d_Gra_advance_1 ?_
  refine z_iconst d_Gra_advance_4 ?_
  refine z_iadd d_Gra_advance_5 ?_
  refine j_aload_n d_Gra_advance_6 rfl ?_
  refine gf_GR_0_2 f_Gra_38 d_Gra_advance_7 ?_
  refine gf_GR_9_5 f_Gra_68 d_Gra_advance_10 ?_
  refine z_icmp_ge (t := 26) d_Gra_advance_13 (by decide) (by first | omega | exact hw _ | exact hx _ _ | assumption) (by first | omega | exact hw _ | exact hx _ _ | assumption) (fun h13 => ?_) (fun h13 => ?_)
  · exfalso
    omega
  · refine j_aload_n d_Gra_advance_16 rfl ?_
    refine j_dup d_Gra_advance_17 rfl ?_
    refine gf_GR_0_4 f_Gra_26 d_Gra_advance_18 ?_
    refine z_iconst d_Gra_advance_21 ?_
    refine z_iadd d_Gra_advance_22 ?_
    refine pf_GR_0_4 f_Gra_26 d_Gra_advance_23 ?_
    refine j_aload_n d_Gra_advance_26 rfl ?_
    refine j_aload_n d_Gra_advance_27 rfl ?_
    refine gf_GR_0_2 f_Gra_38 d_Gra_advance_28 ?_
    refine gf_GR_9_2 f_Gra_53 d_Gra_advance_31 ?_
    refine j_aload_n d_Gra_advance_34 rfl ?_
    refine gf_GR_0_4 f_Gra_26 d_Gra_advance_35 ?_
    refine al_GR_11 d_Gra_advance_38 (by omega) (by omega) ?_
    rw [(hT.2.2.2 (ti + 1) (by omega) (by omega)).1]
    refine pf_GR_0_5 f_Gra_29 d_Gra_advance_39 ?_
    exact j_return rfl d_Gra_advance_42 hQ
theorem t_Gra_fail {g : Bool} {d : Nat} {Q : List xM → Option Value → Prop} {fl oo tn_ pp ne tc sz pz pn : Int} {kn ff sc ts mm st vl by_ tk ps pv pw : Int → Int} {C V : Int → Int} {N : Int} (hT : TkH C V N tk pv) (hpn : pn = N + 1) {ti : Int} (j0 : 0 ≤ ti) (j1 : ti ≤ N) (hQ : Q (W_GR (ps ti) oo ti tn_ pp ne tc sz pz pn kn ff sc ts mm st vl by_ tk ps pv pw) (some (.int (ii 0)))) : CT g m_Gra_fail d [.ref 0] (W_GR fl oo ti tn_ pp ne tc sz pz pn kn ff sc ts mm st vl by_ tk ps pv pw) 0 0 Q := by
  refine CT.of (by decide) (Nat.le_of_ble_eq_true rfl) ?_
  show SJ _ _ _ _ [some (.ref 0)] [] _ _ _ _
  have hN := hT.1
  refine j_aload_n d_Gra_fail_0 rfl ?_
  refine j_aload_n d_Gra_fail_1 rfl ?_
  refine gf_GR_0_2 f_Gra_38 d_Gra_fail_2 ?_
  refine gf_GR_9_3 f_Gra_71 d_Gra_fail_5 ?_
  refine j_aload_n d_Gra_fail_8 rfl ?_
  refine gf_GR_0_4 f_Gra_26 d_Gra_fail_9 ?_
  refine al_GR_12 d_Gra_fail_12 (by omega) (by omega) ?_
  refine pf_GR_0_1 f_Gra_18 d_Gra_fail_13 ?_
  refine z_iconst d_Gra_fail_16 ?_
  exact z_zreturn rfl (Or.inl rfl) d_Gra_fail_17 (hQ)
theorem t_Gra_take {g : Bool} {d : Nat} {Q : List xM → Option Value → Prop} {fl oo pp ne tc sz pz pn : Int} {kn ff sc ts mm st vl by_ tk ps pv pw : Int → Int} {C V : Int → Int} {N : Int} (hT : TkH C V N tk pv) (hpn : pn = N + 1) {ti w v : Int} (j0 : 0 ≤ ti) (j1 : ti ≤ N) (hw : (tkF C N ti) = v ↔ C ti = w) (hw0 : w ≠ 0) (rv : R32 v) (ht : C ti = w → ti < N → Q (W_GR fl oo (ti + 1) (tkF C N (ti + 1)) pp ne tc sz pz pn kn ff sc ts mm st vl by_ tk ps pv pw) (some (.int (ii 1)))) (hf : ¬ C ti = w → Q (W_GR (ps ti) oo ti (tkF C N ti) pp ne tc sz pz pn kn ff sc ts mm st vl by_ tk ps pv pw) (some (.int (ii 0)))) : CT g m_Gra_take (d + 1) [.ref 0, .int (ii v)] (W_GR fl oo ti (tkF C N ti) pp ne tc sz pz pn kn ff sc ts mm st vl by_ tk ps pv pw) 0 0 Q := by
  refine CT.of (by decide) (Nat.le_of_ble_eq_true rfl) ?_
  show SJ _ _ _ _ [some (.ref 0), some (.int (ii v))] [] _ _ _ _
  have hN := hT.1
  have hR := hT.R j0
  refine j_aload_n d_Gra_take_0 rfl ?_
  refine gf_GR_0_5 f_Gra_29 d_Gra_take_1 ?_
  refine j_iload_n d_Gra_take_4 rfl ?_
  refine z_icmp_eq (t := 13) d_Gra_take_5 (by decide) (by first | omega | exact hw _ | exact hx _ _ | assumption) (by first | omega | exact hw _ | exact hx _ _ | assumption) (fun h5 => ?_) (fun h5 => ?_)
  · have hc := hw.mp h5
    have hlt : ti < N := hT.lt j1 (by rw [hc]; exact hw0)
    refine j_aload_n d_Gra_take_13 rfl ?_
    refine v_call0 d_Gra_take_14 c_Gra_74 rfl ⟨_, rfl, rfl⟩ (Nat.le_of_ble_eq_true rfl) (t_Gra_advance hT hpn j0 hlt ?_)
    refine z_iconst d_Gra_take_17 ?_
    exact z_zreturn rfl (Or.inr rfl) d_Gra_take_18 (ht hc hlt)
  · refine j_aload_n d_Gra_take_8 rfl ?_
    refine v_call0 d_Gra_take_9 c_Gra_65 rfl ⟨_, rfl, rfl⟩ (Nat.le_of_ble_eq_true rfl) (t_Gra_fail hT hpn j0 j1 ?_)
    exact z_zreturn rfl (Or.inl rfl) d_Gra_take_12 (hf (fun q => h5 (hw.mpr q)))
theorem t_Gra_isNumber {g : Bool} {d : Nat} {Q : List xM → Option Value → Prop} {fl oo pp ne tc sz pz pn : Int} {kn ff sc ts mm st vl by_ tk ps pv pw : Int → Int} {C V : Int → Int} {N : Int} (hT : TkH C V N tk pv) (hpn : pn = N + 1) {ti lo_ hi_ : Int} (j0 : 0 ≤ ti) (j1 : ti ≤ N) (b0 : 0 ≤ lo_) (b1 : hi_ ≤ 1000) (b2 : lo_ ≤ hi_) (ht : C ti = 50 ∧ lo_ ≤ V ti ∧ V ti ≤ hi_ → Q (W_GR fl oo ti (tkF C N ti) pp ne tc sz pz pn kn ff sc ts mm st vl by_ tk ps pv pw) (some (.int (ii 1)))) (hf : ¬ (C ti = 50 ∧ lo_ ≤ V ti ∧ V ti ≤ hi_) → Q (W_GR fl oo ti (tkF C N ti) pp ne tc sz pz pn kn ff sc ts mm st vl by_ tk ps pv pw) (some (.int (ii 0)))) : CT g m_Gra_isNumber d [.ref 0, .int (ii (lo_)), .int (ii (hi_))] (W_GR fl oo ti (tkF C N ti) pp ne tc sz pz pn kn ff sc ts mm st vl by_ tk ps pv pw) 0 0 Q := by
  refine CT.of (by decide) (Nat.le_of_ble_eq_true rfl) ?_
  show SJ _ _ _ _ [some (.ref 0), some (.int (ii (lo_))), some (.int (ii (hi_)))] [] _ _ _ _
  have hN := hT.1
  have hR := hT.R j0
  refine j_aload_n d_Gra_isNumber_0 rfl ?_
  refine gf_GR_0_5 f_Gra_29 d_Gra_isNumber_1 ?_
  refine z_sipush d_Gra_isNumber_4 (by decide) ?_
  refine z_icmp_ne (t := 46) d_Gra_isNumber_7 (by decide) (by first | omega | exact hw _ | exact hx _ _ | assumption) (by first | omega | exact hw _ | exact hx _ _ | assumption) (fun h7 => ?_) (fun h7 => ?_)
  · first
    | (have hz : ¬ C ti = 50 := fun q => h7 ((hT.n j0 j1).mpr q))
    | skip
    refine z_iconst d_Gra_isNumber_46 ?_
    exact z_zreturn rfl (Or.inl rfl) d_Gra_isNumber_47 (hf (by first | omega | simp_all))
  · have hc : C ti = 50 := (hT.n j0 j1).mp (by omega)
    have hlt : ti < N := hT.lt j1 (by omega)
    have hv : pv ti = min 1001 (V ti) := (hT.2.2.2 ti j0 j1).2 hc
    have hv2 := (hT.2.2.1 ti j0 hlt).2
    refine j_aload_n d_Gra_isNumber_10 rfl ?_
    refine gf_GR_0_2 f_Gra_38 d_Gra_isNumber_11 ?_
    refine gf_GR_9_4 f_Gra_77 d_Gra_isNumber_14 ?_
    refine j_aload_n d_Gra_isNumber_17 rfl ?_
    refine gf_GR_0_4 f_Gra_26 d_Gra_isNumber_18 ?_
    refine al_GR_13 d_Gra_isNumber_21 (by omega) (by omega) ?_
    refine j_iload_n d_Gra_isNumber_22 rfl ?_
    refine z_icmp_lt (t := 46) d_Gra_isNumber_23 (by decide) (by first | omega | exact hw _ | exact hx _ _ | assumption) (by first | omega | exact hw _ | exact hx _ _ | assumption) (fun h23 => ?_) (fun h23 => ?_)
    · first
      | (have hz : ¬ C ti = 50 := fun q => h7 ((hT.n j0 j1).mpr q))
      | skip
      refine z_iconst d_Gra_isNumber_46 ?_
      exact z_zreturn rfl (Or.inl rfl) d_Gra_isNumber_47 (hf (by first | omega | simp_all))
    · refine j_aload_n d_Gra_isNumber_26 rfl ?_
      refine gf_GR_0_2 f_Gra_38 d_Gra_isNumber_27 ?_
      refine gf_GR_9_4 f_Gra_77 d_Gra_isNumber_30 ?_
      refine j_aload_n d_Gra_isNumber_33 rfl ?_
      refine gf_GR_0_4 f_Gra_26 d_Gra_isNumber_34 ?_
      refine al_GR_13 d_Gra_isNumber_37 (by omega) (by omega) ?_
      refine j_iload_n d_Gra_isNumber_38 rfl ?_
      refine z_icmp_gt (t := 46) d_Gra_isNumber_39 (by decide) (by first | omega | exact hw _ | exact hx _ _ | assumption) (by first | omega | exact hw _ | exact hx _ _ | assumption) (fun h39 => ?_) (fun h39 => ?_)
      · first
        | (have hz : ¬ C ti = 50 := fun q => h7 ((hT.n j0 j1).mpr q))
        | skip
        refine z_iconst d_Gra_isNumber_46 ?_
        exact z_zreturn rfl (Or.inl rfl) d_Gra_isNumber_47 (hf (by first | omega | simp_all))
      · refine z_iconst d_Gra_isNumber_42 ?_
        refine j_goto (t := 47) d_Gra_isNumber_43 (by decide) ?_
        exact z_zreturn rfl (Or.inr rfl) d_Gra_isNumber_47 (ht (by first | omega | simp_all))
theorem t_Gra_openBracket {g : Bool} {d : Nat} {Q : List xM → Option Value → Prop} {fl oo tn_ pp ne tc sz pz pn : Int} {kn ff sc ts mm st vl by_ tk ps pv pw : Int → Int} {C V : Int → Int} {N : Int} (hT : TkH C V N tk pv) (hpn : pn = N + 1) {ti : Int} (j0 : 0 ≤ ti) (j1 : ti < N) (e0 : 0 ≤ ne) (e1 : ne ≤ 8) (ht : ne < 8 → Q (W_GR fl oo (ti + 1) (tkF C N (ti + 1)) pp (ne + 1) tc sz pz pn kn ff sc ts mm st vl by_ tk ps pv pw) (some (.int (ii 1)))) (hf : ne = 8 → Q (W_GR (ps ti) oo ti tn_ pp ne tc sz pz pn kn ff sc ts mm st vl by_ tk ps pv pw) (some (.int (ii 0)))) : CT g m_Gra_openBracket (d + 1) [.ref 0] (W_GR fl oo ti tn_ pp ne tc sz pz pn kn ff sc ts mm st vl by_ tk ps pv pw) 0 0 Q := by
  refine CT.of (by decide) (Nat.le_of_ble_eq_true rfl) ?_
  show SJ _ _ _ _ [some (.ref 0)] [] _ _ _ _
  refine j_aload_n d_Gra_openBracket_0 rfl ?_
  refine gf_GR_0_7 f_Gra_35 d_Gra_openBracket_1 ?_
  refine z_bipush d_Gra_openBracket_4 (by decide) ?_
  refine z_icmp_lt (t := 14) d_Gra_openBracket_6 (by decide) (by first | omega | exact hw _ | exact hx _ _ | assumption) (by first | omega | exact hw _ | exact hx _ _ | assumption) (fun h6 => ?_) (fun h6 => ?_)
  · refine j_aload_n d_Gra_openBracket_14 rfl ?_
    refine j_dup d_Gra_openBracket_15 rfl ?_
    refine gf_GR_0_7 f_Gra_35 d_Gra_openBracket_16 ?_
    refine z_iconst d_Gra_openBracket_19 ?_
    refine z_iadd d_Gra_openBracket_20 ?_
    refine pf_GR_0_7 f_Gra_35 d_Gra_openBracket_21 ?_
    refine j_aload_n d_Gra_openBracket_24 rfl ?_
    refine v_call0 d_Gra_openBracket_25 c_Gra_74 rfl ⟨_, rfl, rfl⟩ (Nat.le_of_ble_eq_true rfl) (t_Gra_advance hT hpn j0 j1 ?_)
    refine z_iconst d_Gra_openBracket_28 ?_
    exact z_zreturn rfl (Or.inr rfl) d_Gra_openBracket_29 (ht (by omega))
  · refine j_aload_n d_Gra_openBracket_9 rfl ?_
    refine v_call0 d_Gra_openBracket_10 c_Gra_65 rfl ⟨_, rfl, rfl⟩ (Nat.le_of_ble_eq_true rfl) (t_Gra_fail hT hpn j0 (by omega) ?_)
    exact z_zreturn rfl (Or.inl rfl) d_Gra_openBracket_13 (hf (by omega))
theorem t_Gra_word {g : Bool} {d : Nat} {Q : List xM → Option Value → Prop} {fl pp ne tc sz pz pn : Int} {kn ff sc ts mm st vl by_ tk ps pv pw : Int → Int} {C V : Int → Int} {N : Int} (hT : TkH C V N tk pv) (hpn : pn = N + 1) {io fw lw : Int} (hio : (io = 0 ∧ fw = 9 ∧ lw = 16) ∨ (io = 1 ∧ fw = 14 ∧ lw = 20)) {ti : Int} (j0 : 0 ≤ ti) (j1 : ti ≤ N) (z0_ : 0 ≤ sz) (z1_ : sz < 436) (ht : (fw ≤ C ti ∧ C ti ≤ lw) → Q (W_GR fl io (ti + 1) (tkF C N (ti + 1)) pp ne tc (sz + 1) pz pn kn ff sc ts mm (up st sz 119) (up vl sz (C ti - 9)) by_ tk ps pv pw) (some (.int (ii 1)))) (hf : ¬ (fw ≤ C ti ∧ C ti ≤ lw) → Q (W_GR (ps ti) io ti (tkF C N ti) pp ne tc sz pz pn kn ff sc ts mm st vl by_ tk ps pv pw) (some (.int (ii 0)))) : CT g m_Gra_word (d + 1) [.ref 0] (W_GR fl io ti (tkF C N ti) pp ne tc sz pz pn kn ff sc ts mm st vl by_ tk ps pv pw) 0 0 Q := by
  refine CT.of (by decide) (Nat.le_of_ble_eq_true rfl) ?_
  show SJ _ _ _ _ [some (.ref 0), none, none] [] _ _ _ _
  have hN := hT.1
  have hR := hT.R j0
  have hwd := hT.wd j0 j1
  refine j_aload_n d_Gra_word_0 rfl ?_
  refine gf_GR_0_3 f_Gra_22 d_Gra_word_1 ?_
  refine z_if_eq (t := 13) d_Gra_word_4 (by decide) (by first | omega | exact hw _ | exact hx _ _ | assumption) (fun h4 => ?_) (fun h4 => ?_)
  · refine z_sipush d_Gra_word_13 (by decide) ?_
    refine j_istore_n d_Gra_word_16 (by decide) ?_
    show SJ _ _ _ _ [_, _, _] _ _ _ _ _
    refine j_aload_n d_Gra_word_17 rfl ?_
    refine gf_GR_0_3 f_Gra_22 d_Gra_word_18 ?_
    refine z_if_eq (t := 30) d_Gra_word_21 (by decide) (by first | omega | exact hw _ | exact hx _ _ | assumption) (fun h21 => ?_) (fun h21 => ?_)
    · refine z_sipush d_Gra_word_30 (by decide) ?_
      refine j_istore_n d_Gra_word_33 (by decide) ?_
      show SJ _ _ _ _ [_, _, _] _ _ _ _ _
      refine j_aload_n d_Gra_word_34 rfl ?_
      refine gf_GR_0_5 f_Gra_29 d_Gra_word_35 ?_
      refine j_iload_n d_Gra_word_38 rfl ?_
      refine z_icmp_lt (t := 50) d_Gra_word_39 (by decide) (by first | omega | exact hw _ | exact hx _ _ | assumption) (by first | omega | exact hw _ | exact hx _ _ | assumption) (fun h39 => ?_) (fun h39 => ?_)
      · have hnw : ¬ (fw ≤ C ti ∧ C ti ≤ lw) := fun q => by
          have := hwd.1.mpr (by omega)
          omega
        refine j_aload_n d_Gra_word_50 rfl ?_
        refine v_call0 d_Gra_word_51 c_Gra_65 rfl ⟨_, rfl, rfl⟩ (Nat.le_of_ble_eq_true rfl) (t_Gra_fail hT hpn j0 j1 ?_)
        exact z_zreturn rfl (Or.inl rfl) d_Gra_word_54 (hf hnw)
      · refine j_aload_n d_Gra_word_42 rfl ?_
        refine gf_GR_0_5 f_Gra_29 d_Gra_word_43 ?_
        refine j_iload_n d_Gra_word_46 rfl ?_
        refine z_icmp_le (t := 55) d_Gra_word_47 (by decide) (by first | omega | exact hw _ | exact hx _ _ | assumption) (by first | omega | exact hw _ | exact hx _ _ | assumption) (fun h47 => ?_) (fun h47 => ?_)
        · have hyw := hwd.1.mp ⟨by omega, by omega⟩
          have hlt : ti < N := hT.lt j1 (by omega)
          refine j_aload_n d_Gra_word_55 rfl ?_
          refine gf_GR_0_0 f_Gra_12 d_Gra_word_56 ?_
          refine z_bipush d_Gra_word_59 (by decide) ?_
          refine j_aload_n d_Gra_word_61 rfl ?_
          refine gf_GR_0_5 f_Gra_29 d_Gra_word_62 ?_
          refine z_sipush d_Gra_word_65 (by decide) ?_
          refine z_isub d_Gra_word_68 ?_
          rw [show tkF C N ti - 271 = C ti - 9 by have := hwd.2.2 (by omega); omega]
          refine v_call2 d_Gra_word_69 c_Gra_102 rfl ⟨_, rfl, rfl⟩ (Nat.le_of_ble_eq_true rfl) (t_Tex_addStep (by omega) (by omega) ?_)
          refine j_pop d_Gra_word_72 rfl ?_
          refine j_aload_n d_Gra_word_73 rfl ?_
          refine v_call0 d_Gra_word_74 c_Gra_74 rfl ⟨_, rfl, rfl⟩ (Nat.le_of_ble_eq_true rfl) (t_Gra_advance hT hpn j0 hlt ?_)
          refine z_iconst d_Gra_word_77 ?_
          exact z_zreturn rfl (Or.inr rfl) d_Gra_word_78 (ht (by omega))
        · have hnw : ¬ (fw ≤ C ti ∧ C ti ≤ lw) := fun q => by
            have := hwd.1.mpr (by omega)
            omega
          refine j_aload_n d_Gra_word_50 rfl ?_
          refine v_call0 d_Gra_word_51 c_Gra_65 rfl ⟨_, rfl, rfl⟩ (Nat.le_of_ble_eq_true rfl) (t_Gra_fail hT hpn j0 j1 ?_)
          exact z_zreturn rfl (Or.inl rfl) d_Gra_word_54 (hf hnw)
    · exfalso
      omega
  · refine z_sipush d_Gra_word_7 (by decide) ?_
    refine j_goto (t := 16) d_Gra_word_10 (by decide) ?_
    refine j_istore_n d_Gra_word_16 (by decide) ?_
    show SJ _ _ _ _ [_, _, _] _ _ _ _ _
    refine j_aload_n d_Gra_word_17 rfl ?_
    refine gf_GR_0_3 f_Gra_22 d_Gra_word_18 ?_
    refine z_if_eq (t := 30) d_Gra_word_21 (by decide) (by first | omega | exact hw _ | exact hx _ _ | assumption) (fun h21 => ?_) (fun h21 => ?_)
    · exfalso
      omega
    · refine z_sipush d_Gra_word_24 (by decide) ?_
      refine j_goto (t := 33) d_Gra_word_27 (by decide) ?_
      refine j_istore_n d_Gra_word_33 (by decide) ?_
      show SJ _ _ _ _ [_, _, _] _ _ _ _ _
      refine j_aload_n d_Gra_word_34 rfl ?_
      refine gf_GR_0_5 f_Gra_29 d_Gra_word_35 ?_
      refine j_iload_n d_Gra_word_38 rfl ?_
      refine z_icmp_lt (t := 50) d_Gra_word_39 (by decide) (by first | omega | exact hw _ | exact hx _ _ | assumption) (by first | omega | exact hw _ | exact hx _ _ | assumption) (fun h39 => ?_) (fun h39 => ?_)
      · have hnw : ¬ (fw ≤ C ti ∧ C ti ≤ lw) := fun q => by
          have := hwd.2.1.mpr (by omega)
          omega
        refine j_aload_n d_Gra_word_50 rfl ?_
        refine v_call0 d_Gra_word_51 c_Gra_65 rfl ⟨_, rfl, rfl⟩ (Nat.le_of_ble_eq_true rfl) (t_Gra_fail hT hpn j0 j1 ?_)
        exact z_zreturn rfl (Or.inl rfl) d_Gra_word_54 (hf hnw)
      · refine j_aload_n d_Gra_word_42 rfl ?_
        refine gf_GR_0_5 f_Gra_29 d_Gra_word_43 ?_
        refine j_iload_n d_Gra_word_46 rfl ?_
        refine z_icmp_le (t := 55) d_Gra_word_47 (by decide) (by first | omega | exact hw _ | exact hx _ _ | assumption) (by first | omega | exact hw _ | exact hx _ _ | assumption) (fun h47 => ?_) (fun h47 => ?_)
        · have hyw := hwd.2.1.mp ⟨by omega, by omega⟩
          have hlt : ti < N := hT.lt j1 (by omega)
          refine j_aload_n d_Gra_word_55 rfl ?_
          refine gf_GR_0_0 f_Gra_12 d_Gra_word_56 ?_
          refine z_bipush d_Gra_word_59 (by decide) ?_
          refine j_aload_n d_Gra_word_61 rfl ?_
          refine gf_GR_0_5 f_Gra_29 d_Gra_word_62 ?_
          refine z_sipush d_Gra_word_65 (by decide) ?_
          refine z_isub d_Gra_word_68 ?_
          rw [show tkF C N ti - 271 = C ti - 9 by have := hwd.2.2 (by omega); omega]
          refine v_call2 d_Gra_word_69 c_Gra_102 rfl ⟨_, rfl, rfl⟩ (Nat.le_of_ble_eq_true rfl) (t_Tex_addStep (by omega) (by omega) ?_)
          refine j_pop d_Gra_word_72 rfl ?_
          refine j_aload_n d_Gra_word_73 rfl ?_
          refine v_call0 d_Gra_word_74 c_Gra_74 rfl ⟨_, rfl, rfl⟩ (Nat.le_of_ble_eq_true rfl) (t_Gra_advance hT hpn j0 hlt ?_)
          refine z_iconst d_Gra_word_77 ?_
          exact z_zreturn rfl (Or.inr rfl) d_Gra_word_78 (ht (by omega))
        · have hnw : ¬ (fw ≤ C ti ∧ C ti ≤ lw) := fun q => by
            have := hwd.2.1.mpr (by omega)
            omega
          refine j_aload_n d_Gra_word_50 rfl ?_
          refine v_call0 d_Gra_word_51 c_Gra_65 rfl ⟨_, rfl, rfl⟩ (Nat.le_of_ble_eq_true rfl) (t_Gra_fail hT hpn j0 j1 ?_)
          exact z_zreturn rfl (Or.inl rfl) d_Gra_word_54 (hf hnw)
theorem t_Gra_placeWord {g : Bool} {d : Nat} {Q : List xM → Option Value → Prop} {fl oo pp ne tc sz pz pn : Int} {kn ff sc ts mm st vl by_ tk ps pv pw : Int → Int} {C V : Int → Int} {N : Int} (hT : TkH C V N tk pv) (hpn : pn = N + 1) {ti : Int} (j0 : 0 ≤ ti) (j1 : ti ≤ N) (hc : C ti = 14 ∨ C ti = 20) (z0_ : 0 ≤ sz) (z1_ : sz < 436) (ht : (C (ti + 1) = 50 ∧ 0 ≤ V (ti + 1) ∧ V (ti + 1) ≤ 19) → Q (W_GR fl oo (ti + 2) (tkF C N (ti + 2)) pp ne tc (sz + 1) pz pn kn ff sc ts mm (up st sz 119) (up vl sz ((if C ti = 14 then 12 else 32) + V (ti + 1))) by_ tk ps pv pw) (some (.int (ii 1)))) (hf : ¬ (C (ti + 1) = 50 ∧ 0 ≤ V (ti + 1) ∧ V (ti + 1) ≤ 19) → Q (W_GR (ps (ti + 1)) oo (ti + 1) (tkF C N (ti + 1)) pp ne tc sz pz pn kn ff sc ts mm st vl by_ tk ps pv pw) (some (.int (ii 0)))) : CT g m_Gra_placeWord (d + 1) [.ref 0] (W_GR fl oo ti (tkF C N ti) pp ne tc sz pz pn kn ff sc ts mm st vl by_ tk ps pv pw) 0 0 Q := by
  refine CT.of (by decide) (Nat.le_of_ble_eq_true rfl) ?_
  show SJ _ _ _ _ [some (.ref 0), none] [] _ _ _ _
  have hN := hT.1
  have hR := hT.R j0
  have hlt : ti < N := hT.lt j1 (by omega)
  have h14 := hT.w j0 j1 (w := 14) (v := 276) (by decide) (by decide) (by decide)
  refine j_aload_n d_Gra_placeWord_0 rfl ?_
  refine gf_GR_0_5 f_Gra_29 d_Gra_placeWord_1 ?_
  refine z_sipush d_Gra_placeWord_4 (by decide) ?_
  refine z_icmp_ne (t := 15) d_Gra_placeWord_7 (by decide) (by first | omega | exact hw _ | exact hx _ _ | assumption) (by first | omega | exact hw _ | exact hx _ _ | assumption) (fun h7 => ?_) (fun h7 => ?_)
  · have hcc : ¬ C ti = 14 := fun q => absurd (h14.mpr q) (by omega)
    refine z_bipush d_Gra_placeWord_15 (by decide) ?_
    refine j_istore_n d_Gra_placeWord_17 (by decide) ?_
    show SJ _ _ _ _ [_, _] _ _ _ _ _
    refine j_aload_n d_Gra_placeWord_18 rfl ?_
    refine v_call0 d_Gra_placeWord_19 c_Gra_74 rfl ⟨_, rfl, rfl⟩ (Nat.le_of_ble_eq_true rfl) (t_Gra_advance hT hpn j0 hlt ?_)
    refine j_aload_n d_Gra_placeWord_22 rfl ?_
    refine z_iconst d_Gra_placeWord_23 ?_
    refine z_bipush d_Gra_placeWord_24 (by decide) ?_
    refine v_call2 d_Gra_placeWord_26 c_Gra_115 rfl ⟨_, rfl, rfl⟩ (Nat.le_of_ble_eq_true rfl) (t_Gra_isNumber hT hpn (by omega) (by omega) (by omega) (by omega) (by omega) (fun h26 => ?_) (fun h26 => ?_))
    · refine z_if_ne (t := 37) d_Gra_placeWord_29 (by decide) (by first | omega | exact hw _ | exact hx _ _ | assumption) (fun _ => ?_) (fun h => absurd h (by decide))
      have hlt1 : ti + 1 < N := hT.lt (by omega) (by omega)
      have hv : pv (ti + 1) = min 1001 (V (ti + 1)) := (hT.2.2.2 (ti + 1) (by omega) (by omega)).2 h26.1
      refine j_aload_n d_Gra_placeWord_37 rfl ?_
      refine gf_GR_0_0 f_Gra_12 d_Gra_placeWord_38 ?_
      refine z_bipush d_Gra_placeWord_41 (by decide) ?_
      refine j_iload_n d_Gra_placeWord_43 rfl ?_
      refine j_aload_n d_Gra_placeWord_44 rfl ?_
      refine gf_GR_0_2 f_Gra_38 d_Gra_placeWord_45 ?_
      refine gf_GR_9_4 f_Gra_77 d_Gra_placeWord_48 ?_
      refine j_aload_n d_Gra_placeWord_51 rfl ?_
      refine gf_GR_0_4 f_Gra_26 d_Gra_placeWord_52 ?_
      refine al_GR_13 d_Gra_placeWord_55 (by omega) (by omega) ?_
      refine z_iadd d_Gra_placeWord_56 ?_
      rw [show (32 : Int) + pv (ti + 1) = (if C ti = 14 then 12 else 32) + V (ti + 1) by rw [if_neg hcc]; omega]
      refine v_call2 d_Gra_placeWord_57 c_Gra_102 rfl ⟨_, rfl, rfl⟩ (Nat.le_of_ble_eq_true rfl) (t_Tex_addStep (by omega) (by omega) ?_)
      refine j_pop d_Gra_placeWord_60 rfl ?_
      refine j_aload_n d_Gra_placeWord_61 rfl ?_
      refine v_call0 d_Gra_placeWord_62 c_Gra_74 rfl ⟨_, rfl, rfl⟩ (Nat.le_of_ble_eq_true rfl) (t_Gra_advance hT hpn (by omega) hlt1 ?_)
      refine z_iconst d_Gra_placeWord_65 ?_
      rw [show ti + 1 + 1 = ti + 2 by omega]
      exact z_zreturn rfl (Or.inr rfl) d_Gra_placeWord_66 (ht h26)
    · refine z_if_ne (t := 37) d_Gra_placeWord_29 (by decide) (by first | omega | exact hw _ | exact hx _ _ | assumption) (fun h => absurd h (by decide)) (fun _ => ?_)
      refine j_aload_n d_Gra_placeWord_32 rfl ?_
      refine v_call0 d_Gra_placeWord_33 c_Gra_65 rfl ⟨_, rfl, rfl⟩ (Nat.le_of_ble_eq_true rfl) (t_Gra_fail hT hpn (by omega) (by omega) ?_)
      exact z_zreturn rfl (Or.inl rfl) d_Gra_placeWord_36 (hf h26)
  · have hcc : C ti = 14 := h14.mp (by omega)
    refine z_bipush d_Gra_placeWord_10 (by decide) ?_
    refine j_goto (t := 17) d_Gra_placeWord_12 (by decide) ?_
    refine j_istore_n d_Gra_placeWord_17 (by decide) ?_
    show SJ _ _ _ _ [_, _] _ _ _ _ _
    refine j_aload_n d_Gra_placeWord_18 rfl ?_
    refine v_call0 d_Gra_placeWord_19 c_Gra_74 rfl ⟨_, rfl, rfl⟩ (Nat.le_of_ble_eq_true rfl) (t_Gra_advance hT hpn j0 hlt ?_)
    refine j_aload_n d_Gra_placeWord_22 rfl ?_
    refine z_iconst d_Gra_placeWord_23 ?_
    refine z_bipush d_Gra_placeWord_24 (by decide) ?_
    refine v_call2 d_Gra_placeWord_26 c_Gra_115 rfl ⟨_, rfl, rfl⟩ (Nat.le_of_ble_eq_true rfl) (t_Gra_isNumber hT hpn (by omega) (by omega) (by omega) (by omega) (by omega) (fun h26 => ?_) (fun h26 => ?_))
    · refine z_if_ne (t := 37) d_Gra_placeWord_29 (by decide) (by first | omega | exact hw _ | exact hx _ _ | assumption) (fun _ => ?_) (fun h => absurd h (by decide))
      have hlt1 : ti + 1 < N := hT.lt (by omega) (by omega)
      have hv : pv (ti + 1) = min 1001 (V (ti + 1)) := (hT.2.2.2 (ti + 1) (by omega) (by omega)).2 h26.1
      refine j_aload_n d_Gra_placeWord_37 rfl ?_
      refine gf_GR_0_0 f_Gra_12 d_Gra_placeWord_38 ?_
      refine z_bipush d_Gra_placeWord_41 (by decide) ?_
      refine j_iload_n d_Gra_placeWord_43 rfl ?_
      refine j_aload_n d_Gra_placeWord_44 rfl ?_
      refine gf_GR_0_2 f_Gra_38 d_Gra_placeWord_45 ?_
      refine gf_GR_9_4 f_Gra_77 d_Gra_placeWord_48 ?_
      refine j_aload_n d_Gra_placeWord_51 rfl ?_
      refine gf_GR_0_4 f_Gra_26 d_Gra_placeWord_52 ?_
      refine al_GR_13 d_Gra_placeWord_55 (by omega) (by omega) ?_
      refine z_iadd d_Gra_placeWord_56 ?_
      rw [show (12 : Int) + pv (ti + 1) = (if C ti = 14 then 12 else 32) + V (ti + 1) by rw [if_pos hcc]; omega]
      refine v_call2 d_Gra_placeWord_57 c_Gra_102 rfl ⟨_, rfl, rfl⟩ (Nat.le_of_ble_eq_true rfl) (t_Tex_addStep (by omega) (by omega) ?_)
      refine j_pop d_Gra_placeWord_60 rfl ?_
      refine j_aload_n d_Gra_placeWord_61 rfl ?_
      refine v_call0 d_Gra_placeWord_62 c_Gra_74 rfl ⟨_, rfl, rfl⟩ (Nat.le_of_ble_eq_true rfl) (t_Gra_advance hT hpn (by omega) hlt1 ?_)
      refine z_iconst d_Gra_placeWord_65 ?_
      rw [show ti + 1 + 1 = ti + 2 by omega]
      exact z_zreturn rfl (Or.inr rfl) d_Gra_placeWord_66 (ht h26)
    · refine z_if_ne (t := 37) d_Gra_placeWord_29 (by decide) (by first | omega | exact hw _ | exact hx _ _ | assumption) (fun h => absurd h (by decide)) (fun _ => ?_)
      refine j_aload_n d_Gra_placeWord_32 rfl ?_
      refine v_call0 d_Gra_placeWord_33 c_Gra_65 rfl ⟨_, rfl, rfl⟩ (Nat.le_of_ble_eq_true rfl) (t_Gra_fail hT hpn (by omega) (by omega) ?_)
      exact z_zreturn rfl (Or.inl rfl) d_Gra_placeWord_36 (hf h26)
theorem t_Gra_part {g : Bool} {d : Nat} {Q : List xM → Option Value → Prop} {fl ne tc pz pn : Int} {kn ff sc ts mm st vl by_ tk ps pv pw : Int → Int} {C V : Int → Int} {N : Int} (hT : TkH C V N tk pv) (hpn : pn = N + 1) {io fw lw : Int} (hio : (io = 0 ∧ fw = 9 ∧ lw = 16) ∨ (io = 1 ∧ fw = 14 ∧ lw = 20)) {S_ : Int → Int → PR SXC} (hS : ne < 8 → MGS g m_Gra_sum (d + 3) (ne + 1) fl io tc pz pn kn ff sc ts mm by_ tk ps pv pw C N S_) (hG : GP N S_) (h8 : ne = 8 → ∀ x y, S_ x y = .inr (x - 1)) (e0 : 0 ≤ ne) (e1 : ne ≤ 8) {ti lv z : Int} (k0 : 1 ≤ ti) (k1 : ti ≤ N) (v0 : 0 ≤ lv) (v1 : lv ≤ 50) (z0_ : 0 ≤ z) (z1_ : z ≤ ti) (hok : ∀ (a : SXC) (t l : Int) (st_ vl_ : Int → Int), (pP C V io fw lw S_) ti lv = .inl (a, t, l) → At st_ vl_ z (a.2) → (∀ j, j < z → st_ j = st j ∧ vl_ j = vl j) → ((a.2).length : Int) ≤ t - ti → Q (W_GR fl io t (tkF C N t) l ne tc (z + ((a.2).length : Int)) pz pn kn ff sc ts mm st_ vl_ by_ tk ps pv pw) (some (.int (ii 1)))) (her : ∀ (t : Int), (pP C V io fw lw S_) ti lv = .inr t → ∀ (nx_ tn_ pp_ ne_ sz_ : Int) (st_ vl_ : Int → Int), Q (W_GR (ps t) io nx_ tn_ pp_ ne_ tc sz_ pz pn kn ff sc ts mm st_ vl_ by_ tk ps pv pw) (some (.int (ii 0))))  : CT g m_Gra_part (d + 4) [.ref 0] (W_GR fl io ti (tkF C N ti) lv ne tc z pz pn kn ff sc ts mm st vl by_ tk ps pv pw) 0 0 Q := by
  refine CT.of (by decide) (Nat.le_of_ble_eq_true rfl) ?_
  show SJ _ _ _ _ [some (.ref 0), none] [] _ _ _ _
  have hN := hT.1
  have hR := hT.R (show 0 ≤ ti by omega)
  have h91 := hT.b (show 0 ≤ ti by omega) k1 (b := 91) (by decide) (by decide)
  have h93 : ∀ t, 0 ≤ t → t ≤ N → (tkF C N t = 93 ↔ C t = 193) := fun t a b => hT.b a b (b := 93) (by decide) (by decide)
  refine j_aload_n d_Gra_part_0 rfl ?_
  refine gf_GR_0_5 f_Gra_29 d_Gra_part_1 ?_
  refine z_bipush d_Gra_part_4 (by decide) ?_
  refine z_icmp_ne (t := 50) d_Gra_part_6 (by decide) (by first | omega | exact hw _ | exact hx _ _ | assumption) (by first | omega | exact hw _ | exact hx _ _ | assumption) (fun h6 => ?_) (fun h6 => ?_)
  · have h6b : C ti ≠ 191 := fun q => absurd (h91.mpr q) (by omega)
    refine j_aload_n d_Gra_part_50 rfl ?_
    refine gf_GR_0_6 f_Gra_32 d_Gra_part_51 ?_
    refine z_bipush d_Gra_part_54 (by decide) ?_
    refine z_icmp_lt (t := 64) d_Gra_part_56 (by decide) (by first | omega | exact hw _ | exact hx _ _ | assumption) (by first | omega | exact hw _ | exact hx _ _ | assumption) (fun h56 => ?_) (fun h56 => ?_)
    · refine j_aload_n d_Gra_part_64 rfl ?_
      refine j_dup d_Gra_part_65 rfl ?_
      refine gf_GR_0_6 f_Gra_32 d_Gra_part_66 ?_
      refine z_iconst d_Gra_part_69 ?_
      refine z_iadd d_Gra_part_70 ?_
      refine pf_GR_0_6 f_Gra_32 d_Gra_part_71 ?_
      refine j_aload_n d_Gra_part_74 rfl ?_
      refine z_iconst d_Gra_part_75 ?_
      refine z_sipush d_Gra_part_76 (by decide) ?_
      refine v_call2 d_Gra_part_79 c_Gra_115 rfl ⟨_, rfl, rfl⟩ (Nat.le_of_ble_eq_true rfl) (t_Gra_isNumber hT hpn (by omega) k1 (by omega) (by omega) (by omega) (fun h79 => ?_) (fun h79 => ?_))
      · refine z_if_eq (t := 113) d_Gra_part_82 (by decide) (by first | omega | exact hw _ | exact hx _ _ | assumption) (fun h => absurd h (by decide)) (fun _ => ?_)
        have hlt : ti < N := hT.lt k1 (by omega)
        have hv : pv ti = min 1001 (V ti) := (hT.2.2.2 ti (by omega) k1).2 h79.1
        refine j_aload_n d_Gra_part_85 rfl ?_
        refine gf_GR_0_0 f_Gra_12 d_Gra_part_86 ?_
        refine z_bipush d_Gra_part_89 (by decide) ?_
        refine j_aload_n d_Gra_part_91 rfl ?_
        refine gf_GR_0_2 f_Gra_38 d_Gra_part_92 ?_
        refine gf_GR_9_4 f_Gra_77 d_Gra_part_95 ?_
        refine j_aload_n d_Gra_part_98 rfl ?_
        refine gf_GR_0_4 f_Gra_26 d_Gra_part_99 ?_
        refine al_GR_13 d_Gra_part_102 (by omega) (by omega) ?_
        rw [show pv ti = V ti by omega]
        refine v_call2 d_Gra_part_103 c_Gra_102 rfl ⟨_, rfl, rfl⟩ (Nat.le_of_ble_eq_true rfl) (t_Tex_addStep (by omega) (by omega) ?_)
        refine j_pop d_Gra_part_106 rfl ?_
        refine j_aload_n d_Gra_part_107 rfl ?_
        refine v_call0 d_Gra_part_108 c_Gra_74 rfl ⟨_, rfl, rfl⟩ (Nat.le_of_ble_eq_true rfl) (t_Gra_advance hT hpn (by omega) hlt ?_)
        refine z_iconst d_Gra_part_111 ?_
        exact z_zreturn rfl (Or.inr rfl) d_Gra_part_112 (hok _ _ _ _ _ (pP_num h79.1 h79.2.2 (by omega)) (At.one up_eq up_eq) (fun j hj => ⟨up_ne (by omega), up_ne (by omega)⟩) (by show (1 : Int) ≤ _; omega))
      · refine z_if_eq (t := 113) d_Gra_part_82 (by decide) (by first | omega | exact hw _ | exact hx _ _ | assumption) (fun _ => ?_) (fun h => absurd h (by decide))
        refine j_aload_n d_Gra_part_113 rfl ?_
        refine gf_GR_0_3 f_Gra_22 d_Gra_part_114 ?_
        refine z_if_eq (t := 147) d_Gra_part_117 (by decide) (by first | omega | exact hw _ | exact hx _ _ | assumption) (fun h117 => ?_) (fun h117 => ?_)
        · have hnp : ¬ (io = 1 ∧ (C ti = 14 ∨ C ti = 20)) := fun q => by
            first
            | omega
            | (rcases q.2 with q | q
               · exact absurd (h14.mpr q) (by omega)
               · exact absurd (h20.mpr q) (by omega))
          refine j_aload_n d_Gra_part_147 rfl ?_
          refine v_call0 d_Gra_part_148 c_Gra_142 rfl ⟨_, rfl, rfl⟩ (Nat.le_of_ble_eq_true rfl) (t_Gra_word hT hpn hio (by omega) k1 (by omega) (by omega) (fun h148 => ?_) (fun h148 => ?_))
          · exact z_zreturn rfl (Or.inr rfl) d_Gra_part_151 (hok _ _ _ _ _ (pP_word hio h148 (by omega) hnp) (At.one up_eq up_eq) (fun j hj => ⟨up_ne (by omega), up_ne (by omega)⟩) (by show (1 : Int) ≤ _; omega))
          · exact z_zreturn rfl (Or.inl rfl) d_Gra_part_151 (her _ (pP_none h6b (fun q => h79 ⟨q.1, (hT.2.2.1 ti (by omega) (hT.lt k1 (by omega))).2, q.2⟩) h148) _ _ _ _ _ _ _)
        · have h14 := hT.w (show 0 ≤ ti by omega) k1 (w := 14) (v := 276) (by decide) (by decide) (by decide)
          have h20 := hT.w (show 0 ≤ ti by omega) k1 (w := 20) (v := 282) (by decide) (by decide) (by decide)
          refine j_aload_n d_Gra_part_120 rfl ?_
          refine gf_GR_0_5 f_Gra_29 d_Gra_part_121 ?_
          refine z_sipush d_Gra_part_124 (by decide) ?_
          refine z_icmp_eq (t := 140) d_Gra_part_127 (by decide) (by first | omega | exact hw _ | exact hx _ _ | assumption) (by first | omega | exact hw _ | exact hx _ _ | assumption) (fun h127 => ?_) (fun h127 => ?_)
          · have hcw : C ti = 14 ∨ C ti = 20 := by first | exact Or.inl (h14.mp (by omega)) | exact Or.inr (h20.mp (by omega))
            refine j_aload_n d_Gra_part_140 rfl ?_
            refine v_call0 d_Gra_part_141 c_Gra_139 rfl ⟨_, rfl, rfl⟩ (Nat.le_of_ble_eq_true rfl) (t_Gra_placeWord hT hpn (by omega) k1 hcw (by omega) (by omega) (fun h141 => ?_) (fun h141 => ?_))
            · refine j_goto (t := 151) d_Gra_part_144 (by decide) ?_
              exact z_zreturn rfl (Or.inr rfl) d_Gra_part_151 (hok _ _ _ _ _ (pP_place hio ⟨by omega, hcw⟩ (by omega) h141) (At.one up_eq up_eq) (fun j hj => ⟨up_ne (by omega), up_ne (by omega)⟩) (by show (1 : Int) ≤ _; omega))
            · refine j_goto (t := 151) d_Gra_part_144 (by decide) ?_
              exact z_zreturn rfl (Or.inl rfl) d_Gra_part_151 (her _ (pP_placeN hio ⟨by omega, hcw⟩ (by omega) h141) _ _ _ _ _ _ _)
          · refine j_aload_n d_Gra_part_130 rfl ?_
            refine gf_GR_0_5 f_Gra_29 d_Gra_part_131 ?_
            refine z_sipush d_Gra_part_134 (by decide) ?_
            refine z_icmp_ne (t := 147) d_Gra_part_137 (by decide) (by first | omega | exact hw _ | exact hx _ _ | assumption) (by first | omega | exact hw _ | exact hx _ _ | assumption) (fun h137 => ?_) (fun h137 => ?_)
            · have hnp : ¬ (io = 1 ∧ (C ti = 14 ∨ C ti = 20)) := fun q => by
                first
                | omega
                | (rcases q.2 with q | q
                   · exact absurd (h14.mpr q) (by omega)
                   · exact absurd (h20.mpr q) (by omega))
              refine j_aload_n d_Gra_part_147 rfl ?_
              refine v_call0 d_Gra_part_148 c_Gra_142 rfl ⟨_, rfl, rfl⟩ (Nat.le_of_ble_eq_true rfl) (t_Gra_word hT hpn hio (by omega) k1 (by omega) (by omega) (fun h148 => ?_) (fun h148 => ?_))
              · exact z_zreturn rfl (Or.inr rfl) d_Gra_part_151 (hok _ _ _ _ _ (pP_word hio h148 (by omega) hnp) (At.one up_eq up_eq) (fun j hj => ⟨up_ne (by omega), up_ne (by omega)⟩) (by show (1 : Int) ≤ _; omega))
              · exact z_zreturn rfl (Or.inl rfl) d_Gra_part_151 (her _ (pP_none h6b (fun q => h79 ⟨q.1, (hT.2.2.1 ti (by omega) (hT.lt k1 (by omega))).2, q.2⟩) h148) _ _ _ _ _ _ _)
            · have hcw : C ti = 14 ∨ C ti = 20 := by first | exact Or.inl (h14.mp (by omega)) | exact Or.inr (h20.mp (by omega))
              refine j_aload_n d_Gra_part_140 rfl ?_
              refine v_call0 d_Gra_part_141 c_Gra_139 rfl ⟨_, rfl, rfl⟩ (Nat.le_of_ble_eq_true rfl) (t_Gra_placeWord hT hpn (by omega) k1 hcw (by omega) (by omega) (fun h141 => ?_) (fun h141 => ?_))
              · refine j_goto (t := 151) d_Gra_part_144 (by decide) ?_
                exact z_zreturn rfl (Or.inr rfl) d_Gra_part_151 (hok _ _ _ _ _ (pP_place hio ⟨by omega, hcw⟩ (by omega) h141) (At.one up_eq up_eq) (fun j hj => ⟨up_ne (by omega), up_ne (by omega)⟩) (by show (1 : Int) ≤ _; omega))
              · refine j_goto (t := 151) d_Gra_part_144 (by decide) ?_
                exact z_zreturn rfl (Or.inl rfl) d_Gra_part_151 (her _ (pP_placeN hio ⟨by omega, hcw⟩ (by omega) h141) _ _ _ _ _ _ _)
    · refine j_aload_n d_Gra_part_59 rfl ?_
      refine v_call0 d_Gra_part_60 c_Gra_65 rfl ⟨_, rfl, rfl⟩ (Nat.le_of_ble_eq_true rfl) (t_Gra_fail hT hpn (by omega) k1 ?_)
      exact z_zreturn rfl (Or.inl rfl) d_Gra_part_63 (her ti (pP_full h6b (by omega)) _ _ _ _ _ _ _)
  · have hc : C ti = 191 := h91.mp (by omega)
    have hlt : ti < N := hT.lt k1 (by omega)
    refine j_aload_n d_Gra_part_9 rfl ?_
    refine v_call0 d_Gra_part_10 c_Gra_127 rfl ⟨_, rfl, rfl⟩ (Nat.le_of_ble_eq_true rfl) (t_Gra_openBracket hT hpn (by omega) hlt e0 e1 (fun h10 => ?_) (fun h10 => ?_))
    · refine z_if_eq (t := 36) d_Gra_part_13 (by decide) (by first | omega | exact hw _ | exact hx _ _ | assumption) (fun h => absurd h (by decide)) (fun _ => ?_)
      refine j_aload_n d_Gra_part_16 rfl ?_
      refine v_call0 d_Gra_part_17 c_Gra_112 rfl ⟨_, rfl, rfl⟩ (Nat.le_of_ble_eq_true rfl) (hS h10 (ti + 1) lv z st vl _ (by omega) (by omega) v0 v1 z0_ (by omega) (fun a t l st2 vl2 hq hA hB hC => ?_) (fun t hq nx2 tn2 pp2 ne2 sz2 st2 vl2 => ?_))
      · refine z_if_eq (t := 36) d_Gra_part_20 (by decide) (by first | omega | exact hw _ | exact hx _ _ | assumption) (fun h => absurd h (by decide)) (fun _ => ?_)
        have hG17 := (hG (ti + 1) lv (by omega) (by omega) v0 v1).1 _ _ _ hq
        refine j_aload_n d_Gra_part_23 rfl ?_
        refine z_bipush d_Gra_part_24 (by decide) ?_
        refine v_call1 d_Gra_part_26 c_Gra_61 rfl ⟨_, rfl, rfl⟩ (Nat.le_of_ble_eq_true rfl) (t_Gra_take hT hpn (by omega) (by omega) (h93 t (by omega) (by omega)) (by decide) (by omega) (fun h26 h26l => ?_) (fun h26 => ?_))
        · refine z_if_eq (t := 36) d_Gra_part_29 (by decide) (by first | omega | exact hw _ | exact hx _ _ | assumption) (fun h => absurd h (by decide)) (fun _ => ?_)
          refine z_iconst d_Gra_part_32 ?_
          refine j_goto (t := 37) d_Gra_part_33 (by decide) ?_
          refine j_istore_n d_Gra_part_37 (by decide) ?_
          show SJ _ _ _ _ [_, _] _ _ _ _ _
          refine j_aload_n d_Gra_part_38 rfl ?_
          refine j_dup d_Gra_part_39 rfl ?_
          refine gf_GR_0_7 f_Gra_35 d_Gra_part_40 ?_
          refine z_iconst d_Gra_part_43 ?_
          refine z_isub d_Gra_part_44 ?_
          refine pf_GR_0_7 f_Gra_35 d_Gra_part_45 ?_
          rw [show ne + 1 - 1 = ne by omega]
          refine j_iload_n d_Gra_part_48 rfl ?_
          exact z_zreturn rfl (Or.inr rfl) d_Gra_part_49 (hok _ _ _ _ _ (pP_br hc hq h26) hA hB (by omega))
        · refine z_if_eq (t := 36) d_Gra_part_29 (by decide) (by first | omega | exact hw _ | exact hx _ _ | assumption) (fun _ => ?_) (fun h => absurd h (by decide))
          refine z_iconst d_Gra_part_36 ?_
          refine j_istore_n d_Gra_part_37 (by decide) ?_
          show SJ _ _ _ _ [_, _] _ _ _ _ _
          refine j_aload_n d_Gra_part_38 rfl ?_
          refine j_dup d_Gra_part_39 rfl ?_
          refine gf_GR_0_7 f_Gra_35 d_Gra_part_40 ?_
          refine z_iconst d_Gra_part_43 ?_
          refine z_isub d_Gra_part_44 ?_
          refine pf_GR_0_7 f_Gra_35 d_Gra_part_45 ?_
          refine j_iload_n d_Gra_part_48 rfl ?_
          first
          | exact z_zreturn rfl (Or.inl rfl) d_Gra_part_49 (her t (pP_brE hc hq) _ _ _ _ _ _ _)
          | exact z_zreturn rfl (Or.inl rfl) d_Gra_part_49 (her t (pP_brN hc hq h26) _ _ _ _ _ _ _)
          | exact z_zreturn rfl (Or.inl rfl) d_Gra_part_49 (her ti (pP_brE hc (by rw [h8 h10, show ti + 1 - 1 = ti by omega])) _ _ _ _ _ _ _)
      · refine z_if_eq (t := 36) d_Gra_part_20 (by decide) (by first | omega | exact hw _ | exact hx _ _ | assumption) (fun _ => ?_) (fun h => absurd h (by decide))
        refine z_iconst d_Gra_part_36 ?_
        refine j_istore_n d_Gra_part_37 (by decide) ?_
        show SJ _ _ _ _ [_, _] _ _ _ _ _
        refine j_aload_n d_Gra_part_38 rfl ?_
        refine j_dup d_Gra_part_39 rfl ?_
        refine gf_GR_0_7 f_Gra_35 d_Gra_part_40 ?_
        refine z_iconst d_Gra_part_43 ?_
        refine z_isub d_Gra_part_44 ?_
        refine pf_GR_0_7 f_Gra_35 d_Gra_part_45 ?_
        refine j_iload_n d_Gra_part_48 rfl ?_
        first
        | exact z_zreturn rfl (Or.inl rfl) d_Gra_part_49 (her t (pP_brE hc hq) _ _ _ _ _ _ _)
        | exact z_zreturn rfl (Or.inl rfl) d_Gra_part_49 (her t (pP_brN hc hq h26) _ _ _ _ _ _ _)
        | exact z_zreturn rfl (Or.inl rfl) d_Gra_part_49 (her ti (pP_brE hc (by rw [h8 h10, show ti + 1 - 1 = ti by omega])) _ _ _ _ _ _ _)
    · refine z_if_eq (t := 36) d_Gra_part_13 (by decide) (by first | omega | exact hw _ | exact hx _ _ | assumption) (fun _ => ?_) (fun h => absurd h (by decide))
      refine z_iconst d_Gra_part_36 ?_
      refine j_istore_n d_Gra_part_37 (by decide) ?_
      show SJ _ _ _ _ [_, _] _ _ _ _ _
      refine j_aload_n d_Gra_part_38 rfl ?_
      refine j_dup d_Gra_part_39 rfl ?_
      refine gf_GR_0_7 f_Gra_35 d_Gra_part_40 ?_
      refine z_iconst d_Gra_part_43 ?_
      refine z_isub d_Gra_part_44 ?_
      refine pf_GR_0_7 f_Gra_35 d_Gra_part_45 ?_
      refine j_iload_n d_Gra_part_48 rfl ?_
      first
      | exact z_zreturn rfl (Or.inl rfl) d_Gra_part_49 (her t (pP_brE hc hq) _ _ _ _ _ _ _)
      | exact z_zreturn rfl (Or.inl rfl) d_Gra_part_49 (her t (pP_brN hc hq h26) _ _ _ _ _ _ _)
      | exact z_zreturn rfl (Or.inl rfl) d_Gra_part_49 (her ti (pP_brE hc (by rw [h8 h10, show ti + 1 - 1 = ti by omega])) _ _ _ _ _ _ _)
theorem lp_term {g : Bool} {d : Nat} {Q : List xM → Option Value → Prop} {fl oo ne tc pz pn : Int} {kn ff sc ts mm by_ tk ps pv pw : Int → Int} {C V : Int → Int} {N : Int} (hT : TkH C V N tk pv) (hpn : pn = N + 1) {P_ : Int → Int → PR SXC} (hP : MGS g m_Gra_part (d + 4) ne fl oo tc pz pn kn ff sc ts mm by_ tk ps pv pw C N P_) (hG : GP N P_) {ti0 z : Int} {st0 vl0 : Int → Int} {R_ : PR SXC} (z0_ : 0 ≤ z) (z1_ : z ≤ ti0) (hok : ∀ (a : SXC) (t l : Int) (st_ vl_ : Int → Int), R_ = .inl (a, t, l) → At st_ vl_ z (a.2) → (∀ j, j < z → st_ j = st0 j ∧ vl_ j = vl0 j) → ((a.2).length : Int) ≤ t - ti0 → Q (W_GR fl oo t (tkF C N t) l ne tc (z + ((a.2).length : Int)) pz pn kn ff sc ts mm st_ vl_ by_ tk ps pv pw) (some (.int (ii 1)))) (her : ∀ (t : Int), R_ = .inr t → ∀ (nx_ tn_ pp_ ne_ sz_ : Int) (st_ vl_ : Int → Int), Q (W_GR (ps t) oo nx_ tn_ pp_ ne_ tc sz_ pz pn kn ff sc ts mm st_ vl_ by_ tk ps pv pw) (some (.int (ii 0)))) : ∀ (nn : Nat) (ti : Int) (lv : Int) (e : SXC) (st : Int → Int) (vl : Int → Int) (ci : Int) (k : Nat), (N - ti).toNat = nn → 1 ≤ ti → ti ≤ N → 0 ≤ lv → lv ≤ 50 → 0 ≤ ci → ci < ti → N - ti ≤ (k : Int) → At st vl z e.2 → (∀ j, j < z → st j = st0 j ∧ vl j = vl0 j) → (e.2.length : Int) ≤ ti - ti0 → pLp C P_ isM bnX (k + 1) e ti lv = R_ → SJ g m_Gra_term (d + 5) 11 [some (.ref 0), some (.int (ii ci)), none] [] (W_GR fl oo ti (tkF C N ti) lv ne tc (z + (e.2.length : Int)) pz pn kn ff sc ts mm st vl by_ tk ps pv pw) 0 0 Q := by
  intro nn
  induction nn using Nat.strongRecOn with
  | ind nn ih =>
  intro ti lv e st vl ci k hn a1 a2 a3 a4 a5 a6 a7 hA hB hL hR
  have hN := hT.1
  have hRR := hT.R (show 0 ≤ ti by omega)
  refine j_iload_n d_Gra_term_11 rfl ?_
  refine z_sipush d_Gra_term_12 (by decide) ?_
  refine z_icmp_ge (t := 79) d_Gra_term_15 (by decide) (by first | omega | exact hw _ | exact hx _ _ | assumption) (by first | omega | exact hw _ | exact hx _ _ | assumption) (fun h15 => ?_) (fun h15 => ?_)
  · exfalso
    omega
  · refine j_aload_n d_Gra_term_18 rfl ?_
    refine gf_GR_0_5 f_Gra_29 d_Gra_term_19 ?_
    refine z_bipush d_Gra_term_22 (by decide) ?_
    refine z_icmp_eq (t := 45) d_Gra_term_24 (by decide) (by first | omega | exact hw _ | exact hx _ _ | assumption) (by first | omega | exact hw _ | exact hx _ _ | assumption) (fun h24 => ?_) (fun h24 => ?_)
    · have hop : isM (C ti) := (hT.m (by omega) a2).mp (by omega)
      have hlt : ti < N := hT.lt a2 (by omega)
      obtain ⟨k, rfl⟩ : ∃ j, k = j + 1 := ⟨k - 1, by omega⟩
      refine j_aload_n d_Gra_term_45 rfl ?_
      refine gf_GR_0_5 f_Gra_29 d_Gra_term_46 ?_
      refine j_istore_n d_Gra_term_49 (by decide) ?_
      show SJ _ _ _ _ [_, _, _] _ _ _ _ _
      refine j_aload_n d_Gra_term_50 rfl ?_
      refine v_call0 d_Gra_term_51 c_Gra_74 rfl ⟨_, rfl, rfl⟩ (Nat.le_of_ble_eq_true rfl) (t_Gra_advance hT hpn (by omega) hlt ?_)
      refine j_aload_n d_Gra_term_54 rfl ?_
      refine v_call0 d_Gra_term_55 c_Gra_136 rfl ⟨_, rfl, rfl⟩ (Nat.le_of_ble_eq_true rfl) (hP (ti + 1) lv (z + (e.2.length : Int)) st vl _ (by omega) (by omega) a3 a4 (by omega) (by omega) (fun a t l st2 vl2 hq hA2 hB2 hC2 => ?_) (fun t hq nx2 tn2 pp2 ne2 sz2 st2 vl2 => ?_))
      · refine z_if_ne (t := 63) d_Gra_term_58 (by decide) (by first | omega | exact hw _ | exact hx _ _ | assumption) (fun _ => ?_) (fun h => absurd h (by decide))
        have hg := (hG (ti + 1) lv (by omega) (by omega) a3 a4).1 _ _ _ hq
        rw [pLp_go hop hq] at hR
        refine j_aload_n d_Gra_term_63 rfl ?_
        refine gf_GR_0_0 f_Gra_12 d_Gra_term_64 ?_
        refine j_iload_n d_Gra_term_67 rfl ?_
        refine z_iconst d_Gra_term_68 ?_
        rw [tkF_o (by omega) hlt]
        refine v_call2 d_Gra_term_69 c_Gra_102 rfl ⟨_, rfl, rfl⟩ (Nat.le_of_ble_eq_true rfl) (t_Tex_addStep (by omega) (by omega) ?_)
        refine j_pop d_Gra_term_72 rfl ?_
        refine z_iinc d_Gra_term_73 rfl (by decide) ?_
        show SJ _ _ _ _ [_, _, _] _ _ _ _ _
        refine j_goto (t := 11) d_Gra_term_76 (by decide) ?_
        refine SJ.mask [true, true, false] ?_
        show SJ _ _ _ _ [_, _, none] _ _ _ _ _
        rw [show z + (e.2.length : Int) + (a.2.length : Int) + 1 = z + ((bnX (C ti) e a).2.length : Int) by rw [bnX_len]; omega]
        exact ih _ (by omega) t l (bnX (C ti) e a) _ _ (ci + 1) k rfl (by omega) (by omega) (by omega) (by omega) (by omega) (by omega) (by omega) (((hA.keep hB2).app hA2).push (by rw [len2]; omega)) (fun j hj => ⟨(up_ne (by omega)).trans ((hB2 j (by omega)).1.trans (hB j hj).1), (up_ne (by omega)).trans ((hB2 j (by omega)).2.trans (hB j hj).2)⟩) (by rw [bnX_len]; omega) hR
      · refine z_if_ne (t := 63) d_Gra_term_58 (by decide) (by first | omega | exact hw _ | exact hx _ _ | assumption) (fun h => absurd h (by decide)) (fun _ => ?_)
        refine z_iconst d_Gra_term_61 ?_
        exact z_zreturn rfl (Or.inl rfl) d_Gra_term_62 (her t (by rw [← hR, pLp_er hop hq]) _ _ _ _ _ _ _)
    · refine j_aload_n d_Gra_term_27 rfl ?_
      refine gf_GR_0_5 f_Gra_29 d_Gra_term_28 ?_
      refine z_bipush d_Gra_term_31 (by decide) ?_
      refine z_icmp_eq (t := 45) d_Gra_term_33 (by decide) (by first | omega | exact hw _ | exact hx _ _ | assumption) (by first | omega | exact hw _ | exact hx _ _ | assumption) (fun h33 => ?_) (fun h33 => ?_)
      · have hop : isM (C ti) := (hT.m (by omega) a2).mp (by omega)
        have hlt : ti < N := hT.lt a2 (by omega)
        obtain ⟨k, rfl⟩ : ∃ j, k = j + 1 := ⟨k - 1, by omega⟩
        refine j_aload_n d_Gra_term_45 rfl ?_
        refine gf_GR_0_5 f_Gra_29 d_Gra_term_46 ?_
        refine j_istore_n d_Gra_term_49 (by decide) ?_
        show SJ _ _ _ _ [_, _, _] _ _ _ _ _
        refine j_aload_n d_Gra_term_50 rfl ?_
        refine v_call0 d_Gra_term_51 c_Gra_74 rfl ⟨_, rfl, rfl⟩ (Nat.le_of_ble_eq_true rfl) (t_Gra_advance hT hpn (by omega) hlt ?_)
        refine j_aload_n d_Gra_term_54 rfl ?_
        refine v_call0 d_Gra_term_55 c_Gra_136 rfl ⟨_, rfl, rfl⟩ (Nat.le_of_ble_eq_true rfl) (hP (ti + 1) lv (z + (e.2.length : Int)) st vl _ (by omega) (by omega) a3 a4 (by omega) (by omega) (fun a t l st2 vl2 hq hA2 hB2 hC2 => ?_) (fun t hq nx2 tn2 pp2 ne2 sz2 st2 vl2 => ?_))
        · refine z_if_ne (t := 63) d_Gra_term_58 (by decide) (by first | omega | exact hw _ | exact hx _ _ | assumption) (fun _ => ?_) (fun h => absurd h (by decide))
          have hg := (hG (ti + 1) lv (by omega) (by omega) a3 a4).1 _ _ _ hq
          rw [pLp_go hop hq] at hR
          refine j_aload_n d_Gra_term_63 rfl ?_
          refine gf_GR_0_0 f_Gra_12 d_Gra_term_64 ?_
          refine j_iload_n d_Gra_term_67 rfl ?_
          refine z_iconst d_Gra_term_68 ?_
          rw [tkF_o (by omega) hlt]
          refine v_call2 d_Gra_term_69 c_Gra_102 rfl ⟨_, rfl, rfl⟩ (Nat.le_of_ble_eq_true rfl) (t_Tex_addStep (by omega) (by omega) ?_)
          refine j_pop d_Gra_term_72 rfl ?_
          refine z_iinc d_Gra_term_73 rfl (by decide) ?_
          show SJ _ _ _ _ [_, _, _] _ _ _ _ _
          refine j_goto (t := 11) d_Gra_term_76 (by decide) ?_
          refine SJ.mask [true, true, false] ?_
          show SJ _ _ _ _ [_, _, none] _ _ _ _ _
          rw [show z + (e.2.length : Int) + (a.2.length : Int) + 1 = z + ((bnX (C ti) e a).2.length : Int) by rw [bnX_len]; omega]
          exact ih _ (by omega) t l (bnX (C ti) e a) _ _ (ci + 1) k rfl (by omega) (by omega) (by omega) (by omega) (by omega) (by omega) (by omega) (((hA.keep hB2).app hA2).push (by rw [len2]; omega)) (fun j hj => ⟨(up_ne (by omega)).trans ((hB2 j (by omega)).1.trans (hB j hj).1), (up_ne (by omega)).trans ((hB2 j (by omega)).2.trans (hB j hj).2)⟩) (by rw [bnX_len]; omega) hR
        · refine z_if_ne (t := 63) d_Gra_term_58 (by decide) (by first | omega | exact hw _ | exact hx _ _ | assumption) (fun h => absurd h (by decide)) (fun _ => ?_)
          refine z_iconst d_Gra_term_61 ?_
          exact z_zreturn rfl (Or.inl rfl) d_Gra_term_62 (her t (by rw [← hR, pLp_er hop hq]) _ _ _ _ _ _ _)
      · refine j_aload_n d_Gra_term_36 rfl ?_
        refine gf_GR_0_5 f_Gra_29 d_Gra_term_37 ?_
        refine z_bipush d_Gra_term_40 (by decide) ?_
        refine z_icmp_ne (t := 79) d_Gra_term_42 (by decide) (by first | omega | exact hw _ | exact hx _ _ | assumption) (by first | omega | exact hw _ | exact hx _ _ | assumption) (fun h42 => ?_) (fun h42 => ?_)
        · have hns : ¬ isM (C ti) := fun q => by have := (hT.m (by omega) a2).mpr q; omega
          rw [pLp_st hns] at hR
          refine z_iconst d_Gra_term_79 ?_
          exact z_zreturn rfl (Or.inr rfl) d_Gra_term_80 (hok e ti lv st vl hR.symm hA hB hL)
        · have hop : isM (C ti) := (hT.m (by omega) a2).mp (by omega)
          have hlt : ti < N := hT.lt a2 (by omega)
          obtain ⟨k, rfl⟩ : ∃ j, k = j + 1 := ⟨k - 1, by omega⟩
          refine j_aload_n d_Gra_term_45 rfl ?_
          refine gf_GR_0_5 f_Gra_29 d_Gra_term_46 ?_
          refine j_istore_n d_Gra_term_49 (by decide) ?_
          show SJ _ _ _ _ [_, _, _] _ _ _ _ _
          refine j_aload_n d_Gra_term_50 rfl ?_
          refine v_call0 d_Gra_term_51 c_Gra_74 rfl ⟨_, rfl, rfl⟩ (Nat.le_of_ble_eq_true rfl) (t_Gra_advance hT hpn (by omega) hlt ?_)
          refine j_aload_n d_Gra_term_54 rfl ?_
          refine v_call0 d_Gra_term_55 c_Gra_136 rfl ⟨_, rfl, rfl⟩ (Nat.le_of_ble_eq_true rfl) (hP (ti + 1) lv (z + (e.2.length : Int)) st vl _ (by omega) (by omega) a3 a4 (by omega) (by omega) (fun a t l st2 vl2 hq hA2 hB2 hC2 => ?_) (fun t hq nx2 tn2 pp2 ne2 sz2 st2 vl2 => ?_))
          · refine z_if_ne (t := 63) d_Gra_term_58 (by decide) (by first | omega | exact hw _ | exact hx _ _ | assumption) (fun _ => ?_) (fun h => absurd h (by decide))
            have hg := (hG (ti + 1) lv (by omega) (by omega) a3 a4).1 _ _ _ hq
            rw [pLp_go hop hq] at hR
            refine j_aload_n d_Gra_term_63 rfl ?_
            refine gf_GR_0_0 f_Gra_12 d_Gra_term_64 ?_
            refine j_iload_n d_Gra_term_67 rfl ?_
            refine z_iconst d_Gra_term_68 ?_
            rw [tkF_o (by omega) hlt]
            refine v_call2 d_Gra_term_69 c_Gra_102 rfl ⟨_, rfl, rfl⟩ (Nat.le_of_ble_eq_true rfl) (t_Tex_addStep (by omega) (by omega) ?_)
            refine j_pop d_Gra_term_72 rfl ?_
            refine z_iinc d_Gra_term_73 rfl (by decide) ?_
            show SJ _ _ _ _ [_, _, _] _ _ _ _ _
            refine j_goto (t := 11) d_Gra_term_76 (by decide) ?_
            refine SJ.mask [true, true, false] ?_
            show SJ _ _ _ _ [_, _, none] _ _ _ _ _
            rw [show z + (e.2.length : Int) + (a.2.length : Int) + 1 = z + ((bnX (C ti) e a).2.length : Int) by rw [bnX_len]; omega]
            exact ih _ (by omega) t l (bnX (C ti) e a) _ _ (ci + 1) k rfl (by omega) (by omega) (by omega) (by omega) (by omega) (by omega) (by omega) (((hA.keep hB2).app hA2).push (by rw [len2]; omega)) (fun j hj => ⟨(up_ne (by omega)).trans ((hB2 j (by omega)).1.trans (hB j hj).1), (up_ne (by omega)).trans ((hB2 j (by omega)).2.trans (hB j hj).2)⟩) (by rw [bnX_len]; omega) hR
          · refine z_if_ne (t := 63) d_Gra_term_58 (by decide) (by first | omega | exact hw _ | exact hx _ _ | assumption) (fun h => absurd h (by decide)) (fun _ => ?_)
            refine z_iconst d_Gra_term_61 ?_
            exact z_zreturn rfl (Or.inl rfl) d_Gra_term_62 (her t (by rw [← hR, pLp_er hop hq]) _ _ _ _ _ _ _)
theorem t_Gra_term {g : Bool} {d : Nat} {Q : List xM → Option Value → Prop} {fl oo ne tc pz pn : Int} {kn ff sc ts mm st vl by_ tk ps pv pw : Int → Int} {C V : Int → Int} {N : Int} (hT : TkH C V N tk pv) (hpn : pn = N + 1) {P_ : Int → Int → PR SXC} (hP : MGS g m_Gra_part (d + 4) ne fl oo tc pz pn kn ff sc ts mm by_ tk ps pv pw C N P_) (hG : GP N P_) {ti lv z : Int} (k0 : 1 ≤ ti) (k1 : ti ≤ N) (v0 : 0 ≤ lv) (v1 : lv ≤ 50) (z0_ : 0 ≤ z) (z1_ : z ≤ ti) (hok : ∀ (a : SXC) (t l : Int) (st_ vl_ : Int → Int), pLV C P_ isM bnX ti lv = .inl (a, t, l) → At st_ vl_ z (a.2) → (∀ j, j < z → st_ j = st j ∧ vl_ j = vl j) → ((a.2).length : Int) ≤ t - ti → Q (W_GR fl oo t (tkF C N t) l ne tc (z + ((a.2).length : Int)) pz pn kn ff sc ts mm st_ vl_ by_ tk ps pv pw) (some (.int (ii 1)))) (her : ∀ (t : Int), pLV C P_ isM bnX ti lv = .inr t → ∀ (nx_ tn_ pp_ ne_ sz_ : Int) (st_ vl_ : Int → Int), Q (W_GR (ps t) oo nx_ tn_ pp_ ne_ tc sz_ pz pn kn ff sc ts mm st_ vl_ by_ tk ps pv pw) (some (.int (ii 0))))  : CT g m_Gra_term (d + 5) [.ref 0] (W_GR fl oo ti (tkF C N ti) lv ne tc z pz pn kn ff sc ts mm st vl by_ tk ps pv pw) 0 0 Q := by
  refine CT.of (by decide) (Nat.le_of_ble_eq_true rfl) ?_
  show SJ _ _ _ _ [some (.ref 0), none, none] [] _ _ _ _
  have hN := hT.1
  refine j_aload_n d_Gra_term_0 rfl ?_
  refine v_call0 d_Gra_term_1 c_Gra_136 rfl ⟨_, rfl, rfl⟩ (Nat.le_of_ble_eq_true rfl) (hP ti lv z st vl _ k0 k1 v0 v1 z0_ z1_ (fun a t l st2 vl2 hq hA hB hC => ?_) (fun t hq nx2 tn2 pp2 ne2 sz2 st2 vl2 => ?_))
  · refine z_if_ne (t := 9) d_Gra_term_4 (by decide) (by first | omega | exact hw _ | exact hx _ _ | assumption) (fun _ => ?_) (fun h => absurd h (by decide))
    refine z_iconst d_Gra_term_9 ?_
    refine j_istore_n d_Gra_term_10 (by decide) ?_
    show SJ _ _ _ _ [_, _, _] _ _ _ _ _
    have hg := (hG ti lv k0 k1 v0 v1).1 _ _ _ hq
    exact lp_term hT hpn hP hG z0_ z1_ hok her _ t l a st2 vl2 0 400 rfl (by omega) (by omega) (by omega) (by omega) (by omega) (by omega) (by omega) hA hB hC (pLV_go hq).symm
  · refine z_if_ne (t := 9) d_Gra_term_4 (by decide) (by first | omega | exact hw _ | exact hx _ _ | assumption) (fun h => absurd h (by decide)) (fun _ => ?_)
    refine z_iconst d_Gra_term_7 ?_
    exact z_zreturn rfl (Or.inl rfl) d_Gra_term_8 (her t (pLV_er hq) _ _ _ _ _ _ _)
theorem lp_sum {g : Bool} {d : Nat} {Q : List xM → Option Value → Prop} {fl oo ne tc pz pn : Int} {kn ff sc ts mm by_ tk ps pv pw : Int → Int} {C V : Int → Int} {N : Int} (hT : TkH C V N tk pv) (hpn : pn = N + 1) {P_ : Int → Int → PR SXC} (hP : MGS g m_Gra_term (d + 5) ne fl oo tc pz pn kn ff sc ts mm by_ tk ps pv pw C N P_) (hG : GP N P_) {ti0 z : Int} {st0 vl0 : Int → Int} {R_ : PR SXC} (z0_ : 0 ≤ z) (z1_ : z ≤ ti0) (hok : ∀ (a : SXC) (t l : Int) (st_ vl_ : Int → Int), R_ = .inl (a, t, l) → At st_ vl_ z (a.2) → (∀ j, j < z → st_ j = st0 j ∧ vl_ j = vl0 j) → ((a.2).length : Int) ≤ t - ti0 → Q (W_GR fl oo t (tkF C N t) l ne tc (z + ((a.2).length : Int)) pz pn kn ff sc ts mm st_ vl_ by_ tk ps pv pw) (some (.int (ii 1)))) (her : ∀ (t : Int), R_ = .inr t → ∀ (nx_ tn_ pp_ ne_ sz_ : Int) (st_ vl_ : Int → Int), Q (W_GR (ps t) oo nx_ tn_ pp_ ne_ tc sz_ pz pn kn ff sc ts mm st_ vl_ by_ tk ps pv pw) (some (.int (ii 0)))) : ∀ (nn : Nat) (ti : Int) (lv : Int) (e : SXC) (st : Int → Int) (vl : Int → Int) (ci : Int) (k : Nat), (N - ti).toNat = nn → 1 ≤ ti → ti ≤ N → 0 ≤ lv → lv ≤ 50 → 0 ≤ ci → ci < ti → N - ti ≤ (k : Int) → At st vl z e.2 → (∀ j, j < z → st j = st0 j ∧ vl j = vl0 j) → (e.2.length : Int) ≤ ti - ti0 → pLp C P_ isA bnX (k + 1) e ti lv = R_ → SJ g m_Gra_sum (d + 6) 11 [some (.ref 0), some (.int (ii ci)), none] [] (W_GR fl oo ti (tkF C N ti) lv ne tc (z + (e.2.length : Int)) pz pn kn ff sc ts mm st vl by_ tk ps pv pw) 0 0 Q := by
  intro nn
  induction nn using Nat.strongRecOn with
  | ind nn ih =>
  intro ti lv e st vl ci k hn a1 a2 a3 a4 a5 a6 a7 hA hB hL hR
  have hN := hT.1
  have hRR := hT.R (show 0 ≤ ti by omega)
  refine j_iload_n d_Gra_sum_11 rfl ?_
  refine z_sipush d_Gra_sum_12 (by decide) ?_
  refine z_icmp_ge (t := 70) d_Gra_sum_15 (by decide) (by first | omega | exact hw _ | exact hx _ _ | assumption) (by first | omega | exact hw _ | exact hx _ _ | assumption) (fun h15 => ?_) (fun h15 => ?_)
  · exfalso
    omega
  · refine j_aload_n d_Gra_sum_18 rfl ?_
    refine gf_GR_0_5 f_Gra_29 d_Gra_sum_19 ?_
    refine z_bipush d_Gra_sum_22 (by decide) ?_
    refine z_icmp_eq (t := 36) d_Gra_sum_24 (by decide) (by first | omega | exact hw _ | exact hx _ _ | assumption) (by first | omega | exact hw _ | exact hx _ _ | assumption) (fun h24 => ?_) (fun h24 => ?_)
    · have hop : isA (C ti) := (hT.a (by omega) a2).mp (by omega)
      have hlt : ti < N := hT.lt a2 (by omega)
      obtain ⟨k, rfl⟩ : ∃ j, k = j + 1 := ⟨k - 1, by omega⟩
      refine j_aload_n d_Gra_sum_36 rfl ?_
      refine gf_GR_0_5 f_Gra_29 d_Gra_sum_37 ?_
      refine j_istore_n d_Gra_sum_40 (by decide) ?_
      show SJ _ _ _ _ [_, _, _] _ _ _ _ _
      refine j_aload_n d_Gra_sum_41 rfl ?_
      refine v_call0 d_Gra_sum_42 c_Gra_74 rfl ⟨_, rfl, rfl⟩ (Nat.le_of_ble_eq_true rfl) (t_Gra_advance hT hpn (by omega) hlt ?_)
      refine j_aload_n d_Gra_sum_45 rfl ?_
      refine v_call0 d_Gra_sum_46 c_Gra_133 rfl ⟨_, rfl, rfl⟩ (Nat.le_of_ble_eq_true rfl) (hP (ti + 1) lv (z + (e.2.length : Int)) st vl _ (by omega) (by omega) a3 a4 (by omega) (by omega) (fun a t l st2 vl2 hq hA2 hB2 hC2 => ?_) (fun t hq nx2 tn2 pp2 ne2 sz2 st2 vl2 => ?_))
      · refine z_if_ne (t := 54) d_Gra_sum_49 (by decide) (by first | omega | exact hw _ | exact hx _ _ | assumption) (fun _ => ?_) (fun h => absurd h (by decide))
        have hg := (hG (ti + 1) lv (by omega) (by omega) a3 a4).1 _ _ _ hq
        rw [pLp_go hop hq] at hR
        refine j_aload_n d_Gra_sum_54 rfl ?_
        refine gf_GR_0_0 f_Gra_12 d_Gra_sum_55 ?_
        refine j_iload_n d_Gra_sum_58 rfl ?_
        refine z_iconst d_Gra_sum_59 ?_
        rw [tkF_o (by omega) hlt]
        refine v_call2 d_Gra_sum_60 c_Gra_102 rfl ⟨_, rfl, rfl⟩ (Nat.le_of_ble_eq_true rfl) (t_Tex_addStep (by omega) (by omega) ?_)
        refine j_pop d_Gra_sum_63 rfl ?_
        refine z_iinc d_Gra_sum_64 rfl (by decide) ?_
        show SJ _ _ _ _ [_, _, _] _ _ _ _ _
        refine j_goto (t := 11) d_Gra_sum_67 (by decide) ?_
        refine SJ.mask [true, true, false] ?_
        show SJ _ _ _ _ [_, _, none] _ _ _ _ _
        rw [show z + (e.2.length : Int) + (a.2.length : Int) + 1 = z + ((bnX (C ti) e a).2.length : Int) by rw [bnX_len]; omega]
        exact ih _ (by omega) t l (bnX (C ti) e a) _ _ (ci + 1) k rfl (by omega) (by omega) (by omega) (by omega) (by omega) (by omega) (by omega) (((hA.keep hB2).app hA2).push (by rw [len2]; omega)) (fun j hj => ⟨(up_ne (by omega)).trans ((hB2 j (by omega)).1.trans (hB j hj).1), (up_ne (by omega)).trans ((hB2 j (by omega)).2.trans (hB j hj).2)⟩) (by rw [bnX_len]; omega) hR
      · refine z_if_ne (t := 54) d_Gra_sum_49 (by decide) (by first | omega | exact hw _ | exact hx _ _ | assumption) (fun h => absurd h (by decide)) (fun _ => ?_)
        refine z_iconst d_Gra_sum_52 ?_
        exact z_zreturn rfl (Or.inl rfl) d_Gra_sum_53 (her t (by rw [← hR, pLp_er hop hq]) _ _ _ _ _ _ _)
    · refine j_aload_n d_Gra_sum_27 rfl ?_
      refine gf_GR_0_5 f_Gra_29 d_Gra_sum_28 ?_
      refine z_bipush d_Gra_sum_31 (by decide) ?_
      refine z_icmp_ne (t := 70) d_Gra_sum_33 (by decide) (by first | omega | exact hw _ | exact hx _ _ | assumption) (by first | omega | exact hw _ | exact hx _ _ | assumption) (fun h33 => ?_) (fun h33 => ?_)
      · have hns : ¬ isA (C ti) := fun q => by have := (hT.a (by omega) a2).mpr q; omega
        rw [pLp_st hns] at hR
        refine z_iconst d_Gra_sum_70 ?_
        exact z_zreturn rfl (Or.inr rfl) d_Gra_sum_71 (hok e ti lv st vl hR.symm hA hB hL)
      · have hop : isA (C ti) := (hT.a (by omega) a2).mp (by omega)
        have hlt : ti < N := hT.lt a2 (by omega)
        obtain ⟨k, rfl⟩ : ∃ j, k = j + 1 := ⟨k - 1, by omega⟩
        refine j_aload_n d_Gra_sum_36 rfl ?_
        refine gf_GR_0_5 f_Gra_29 d_Gra_sum_37 ?_
        refine j_istore_n d_Gra_sum_40 (by decide) ?_
        show SJ _ _ _ _ [_, _, _] _ _ _ _ _
        refine j_aload_n d_Gra_sum_41 rfl ?_
        refine v_call0 d_Gra_sum_42 c_Gra_74 rfl ⟨_, rfl, rfl⟩ (Nat.le_of_ble_eq_true rfl) (t_Gra_advance hT hpn (by omega) hlt ?_)
        refine j_aload_n d_Gra_sum_45 rfl ?_
        refine v_call0 d_Gra_sum_46 c_Gra_133 rfl ⟨_, rfl, rfl⟩ (Nat.le_of_ble_eq_true rfl) (hP (ti + 1) lv (z + (e.2.length : Int)) st vl _ (by omega) (by omega) a3 a4 (by omega) (by omega) (fun a t l st2 vl2 hq hA2 hB2 hC2 => ?_) (fun t hq nx2 tn2 pp2 ne2 sz2 st2 vl2 => ?_))
        · refine z_if_ne (t := 54) d_Gra_sum_49 (by decide) (by first | omega | exact hw _ | exact hx _ _ | assumption) (fun _ => ?_) (fun h => absurd h (by decide))
          have hg := (hG (ti + 1) lv (by omega) (by omega) a3 a4).1 _ _ _ hq
          rw [pLp_go hop hq] at hR
          refine j_aload_n d_Gra_sum_54 rfl ?_
          refine gf_GR_0_0 f_Gra_12 d_Gra_sum_55 ?_
          refine j_iload_n d_Gra_sum_58 rfl ?_
          refine z_iconst d_Gra_sum_59 ?_
          rw [tkF_o (by omega) hlt]
          refine v_call2 d_Gra_sum_60 c_Gra_102 rfl ⟨_, rfl, rfl⟩ (Nat.le_of_ble_eq_true rfl) (t_Tex_addStep (by omega) (by omega) ?_)
          refine j_pop d_Gra_sum_63 rfl ?_
          refine z_iinc d_Gra_sum_64 rfl (by decide) ?_
          show SJ _ _ _ _ [_, _, _] _ _ _ _ _
          refine j_goto (t := 11) d_Gra_sum_67 (by decide) ?_
          refine SJ.mask [true, true, false] ?_
          show SJ _ _ _ _ [_, _, none] _ _ _ _ _
          rw [show z + (e.2.length : Int) + (a.2.length : Int) + 1 = z + ((bnX (C ti) e a).2.length : Int) by rw [bnX_len]; omega]
          exact ih _ (by omega) t l (bnX (C ti) e a) _ _ (ci + 1) k rfl (by omega) (by omega) (by omega) (by omega) (by omega) (by omega) (by omega) (((hA.keep hB2).app hA2).push (by rw [len2]; omega)) (fun j hj => ⟨(up_ne (by omega)).trans ((hB2 j (by omega)).1.trans (hB j hj).1), (up_ne (by omega)).trans ((hB2 j (by omega)).2.trans (hB j hj).2)⟩) (by rw [bnX_len]; omega) hR
        · refine z_if_ne (t := 54) d_Gra_sum_49 (by decide) (by first | omega | exact hw _ | exact hx _ _ | assumption) (fun h => absurd h (by decide)) (fun _ => ?_)
          refine z_iconst d_Gra_sum_52 ?_
          exact z_zreturn rfl (Or.inl rfl) d_Gra_sum_53 (her t (by rw [← hR, pLp_er hop hq]) _ _ _ _ _ _ _)
theorem t_Gra_sum {g : Bool} {d : Nat} {Q : List xM → Option Value → Prop} {fl oo ne tc pz pn : Int} {kn ff sc ts mm st vl by_ tk ps pv pw : Int → Int} {C V : Int → Int} {N : Int} (hT : TkH C V N tk pv) (hpn : pn = N + 1) {P_ : Int → Int → PR SXC} (hP : MGS g m_Gra_term (d + 5) ne fl oo tc pz pn kn ff sc ts mm by_ tk ps pv pw C N P_) (hG : GP N P_) {ti lv z : Int} (k0 : 1 ≤ ti) (k1 : ti ≤ N) (v0 : 0 ≤ lv) (v1 : lv ≤ 50) (z0_ : 0 ≤ z) (z1_ : z ≤ ti) (hok : ∀ (a : SXC) (t l : Int) (st_ vl_ : Int → Int), pLV C P_ isA bnX ti lv = .inl (a, t, l) → At st_ vl_ z (a.2) → (∀ j, j < z → st_ j = st j ∧ vl_ j = vl j) → ((a.2).length : Int) ≤ t - ti → Q (W_GR fl oo t (tkF C N t) l ne tc (z + ((a.2).length : Int)) pz pn kn ff sc ts mm st_ vl_ by_ tk ps pv pw) (some (.int (ii 1)))) (her : ∀ (t : Int), pLV C P_ isA bnX ti lv = .inr t → ∀ (nx_ tn_ pp_ ne_ sz_ : Int) (st_ vl_ : Int → Int), Q (W_GR (ps t) oo nx_ tn_ pp_ ne_ tc sz_ pz pn kn ff sc ts mm st_ vl_ by_ tk ps pv pw) (some (.int (ii 0))))  : CT g m_Gra_sum (d + 6) [.ref 0] (W_GR fl oo ti (tkF C N ti) lv ne tc z pz pn kn ff sc ts mm st vl by_ tk ps pv pw) 0 0 Q := by
  refine CT.of (by decide) (Nat.le_of_ble_eq_true rfl) ?_
  show SJ _ _ _ _ [some (.ref 0), none, none] [] _ _ _ _
  have hN := hT.1
  refine j_aload_n d_Gra_sum_0 rfl ?_
  refine v_call0 d_Gra_sum_1 c_Gra_133 rfl ⟨_, rfl, rfl⟩ (Nat.le_of_ble_eq_true rfl) (hP ti lv z st vl _ k0 k1 v0 v1 z0_ z1_ (fun a t l st2 vl2 hq hA hB hC => ?_) (fun t hq nx2 tn2 pp2 ne2 sz2 st2 vl2 => ?_))
  · refine z_if_ne (t := 9) d_Gra_sum_4 (by decide) (by first | omega | exact hw _ | exact hx _ _ | assumption) (fun _ => ?_) (fun h => absurd h (by decide))
    refine z_iconst d_Gra_sum_9 ?_
    refine j_istore_n d_Gra_sum_10 (by decide) ?_
    show SJ _ _ _ _ [_, _, _] _ _ _ _ _
    have hg := (hG ti lv k0 k1 v0 v1).1 _ _ _ hq
    exact lp_sum hT hpn hP hG z0_ z1_ hok her _ t l a st2 vl2 0 400 rfl (by omega) (by omega) (by omega) (by omega) (by omega) (by omega) (by omega) hA hB hC (pLV_go hq).symm
  · refine z_if_ne (t := 9) d_Gra_sum_4 (by decide) (by first | omega | exact hw _ | exact hx _ _ | assumption) (fun h => absurd h (by decide)) (fun _ => ?_)
    refine z_iconst d_Gra_sum_7 ?_
    exact z_zreturn rfl (Or.inl rfl) d_Gra_sum_8 (her t (pLV_er hq) _ _ _ _ _ _ _)
