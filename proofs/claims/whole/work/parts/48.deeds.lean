def W_D (dz : Int) (lc : Int) (fo : Int) (rn : Int) (rl : Int) (rp : Int) (td : Int) (br : Int) (dk : Int → Int) (dl : Int → Int) (dg : Int → Int) (rs : Int → Int) (rm : Int → Int) (rd : Int → Int) (ro : Int → Int) (tm : Int → Int) (sk : Int → Int) (wd : Int → Int) (lx : Nat → Option Nat) (ts : List TD) : List xM := [.inr (1, [.int (ii dz), .ref 11, .ref 4, .ref 1, .ref 2, .ref 3]), .inl (0, 16, .inl (ia (dk))), .inl (0, 16, .inl (ia (dl))), .inl (0, 16, .inl (ia (dg))), .inr (7, [.ref 5, .ref 10, .ref 15, .int (ii lc), .int (ii fo)]), .inr (5, [.ref 6, .int (ii rn), .ref 7, .ref 8, .ref 9, .int (ii rl), .int (ii rp)]), .inl (0, 20, .inl (ia (rs))), .inl (0, 20, .inl (ia (rm))), .inl (0, 20, .inl (ia (rd))), .inl (0, 20, .inl (ia (ro))), .inl (0, 3, .inl (ia (tm))), .inr (0, [.ref 12, .ref 14, .int (ii td)]), .inr (8, [.int (ii br), .ref 13]), .inl (0, 51, .inl (ia (sk))), .inl (0, 52, .inl (ia (wd)))] ++ DT 15 lx ts
section WR_D
variable {g : Bool} {y : xY} {d pc : Nat} {L : List (Option Value)} {zst : List Value} {bc bs : Nat} {Q : List xM → Option Value → Prop} {dz lc fo rn rl rp td br : Int} {dk dl dg rs rm rd ro tm sk wd : Int → Int} {lx : Nat → Option Nat} {ts : List TD} 
theorem gf_D_0_0 {idx : Nat} (hf : x_fs y.1.cls idx 1 0) (hd : decode y.2.1 pc = .ok (.getfield idx, 3)) (kk : SJ g y d (pc + 3) L (.int (ii dz) :: zst) (W_D dz lc fo rn rl rp td br dk dl dg rs rm rd ro tm sk wd lx ts) bc bs Q) : SJ g y d pc L (.ref 0 :: zst) (W_D dz lc fo rn rl rp td br dk dl dg rs rm rd ro tm sk wd lx ts) bc bs Q := j_getf hd hf rfl rfl kk
theorem pf_D_0_0 {idx : Nat} {v : Int} (hf : x_fs y.1.cls idx 1 0) (hd : decode y.2.1 pc = .ok (.putfield idx, 3)) (kk : SJ g y d (pc + 3) L zst (W_D v lc fo rn rl rp td br dk dl dg rs rm rd ro tm sk wd lx ts) bc bs Q) : SJ g y d pc L (.int (ii v) :: .ref 0 :: zst) (W_D dz lc fo rn rl rp td br dk dl dg rs rm rd ro tm sk wd lx ts) bc bs Q := j_putf (ci := 1) (k := 0) hd hf ⟨_, rfl, rfl, rfl⟩ rfl (Nat.le_of_ble_eq_true rfl) x_okI kk
theorem gf_D_0_1 {idx : Nat} (hf : x_fs y.1.cls idx 1 1) (hd : decode y.2.1 pc = .ok (.getfield idx, 3)) (kk : SJ g y d (pc + 3) L (.ref 11 :: zst) (W_D dz lc fo rn rl rp td br dk dl dg rs rm rd ro tm sk wd lx ts) bc bs Q) : SJ g y d pc L (.ref 0 :: zst) (W_D dz lc fo rn rl rp td br dk dl dg rs rm rd ro tm sk wd lx ts) bc bs Q := j_getf hd hf rfl rfl kk
theorem gf_D_0_2 {idx : Nat} (hf : x_fs y.1.cls idx 1 2) (hd : decode y.2.1 pc = .ok (.getfield idx, 3)) (kk : SJ g y d (pc + 3) L (.ref 4 :: zst) (W_D dz lc fo rn rl rp td br dk dl dg rs rm rd ro tm sk wd lx ts) bc bs Q) : SJ g y d pc L (.ref 0 :: zst) (W_D dz lc fo rn rl rp td br dk dl dg rs rm rd ro tm sk wd lx ts) bc bs Q := j_getf hd hf rfl rfl kk
theorem gf_D_0_3 {idx : Nat} (hf : x_fs y.1.cls idx 1 3) (hd : decode y.2.1 pc = .ok (.getfield idx, 3)) (kk : SJ g y d (pc + 3) L (.ref 1 :: zst) (W_D dz lc fo rn rl rp td br dk dl dg rs rm rd ro tm sk wd lx ts) bc bs Q) : SJ g y d pc L (.ref 0 :: zst) (W_D dz lc fo rn rl rp td br dk dl dg rs rm rd ro tm sk wd lx ts) bc bs Q := j_getf hd hf rfl rfl kk
theorem gf_D_0_4 {idx : Nat} (hf : x_fs y.1.cls idx 1 4) (hd : decode y.2.1 pc = .ok (.getfield idx, 3)) (kk : SJ g y d (pc + 3) L (.ref 2 :: zst) (W_D dz lc fo rn rl rp td br dk dl dg rs rm rd ro tm sk wd lx ts) bc bs Q) : SJ g y d pc L (.ref 0 :: zst) (W_D dz lc fo rn rl rp td br dk dl dg rs rm rd ro tm sk wd lx ts) bc bs Q := j_getf hd hf rfl rfl kk
theorem gf_D_0_5 {idx : Nat} (hf : x_fs y.1.cls idx 1 5) (hd : decode y.2.1 pc = .ok (.getfield idx, 3)) (kk : SJ g y d (pc + 3) L (.ref 3 :: zst) (W_D dz lc fo rn rl rp td br dk dl dg rs rm rd ro tm sk wd lx ts) bc bs Q) : SJ g y d pc L (.ref 0 :: zst) (W_D dz lc fo rn rl rp td br dk dl dg rs rm rd ro tm sk wd lx ts) bc bs Q := j_getf hd hf rfl rfl kk
theorem al_D_1 {a : Int} (hd : decode y.2.1 pc = .ok (.iaload, 1)) (h0 : 0 ≤ a) (h1 : a < 16) (kk : SJ g y d (pc + 1) L (.int (ii (dk a)) :: zst) (W_D dz lc fo rn rl rp td br dk dl dg rs rm rd ro tm sk wd lx ts) bc bs Q) : SJ g y d pc L (.int (ii a) :: .ref 1 :: zst) (W_D dz lc fo rn rl rp td br dk dl dg rs rm rd ro tm sk wd lx ts) bc bs Q := z_iald hd rfl h0 h1 ⟨by omega, by omega⟩ kk
theorem as_D_1 {a v : Int} (hd : decode y.2.1 pc = .ok (.iastore, 1)) (h0 : 0 ≤ a) (h1 : a < 16) (kk : SJ g y d (pc + 1) L zst (W_D dz lc fo rn rl rp td br (up dk a v) dl dg rs rm rd ro tm sk wd lx ts) bc bs Q) : SJ g y d pc L (.int (ii v) :: .int (ii a) :: .ref 1 :: zst) (W_D dz lc fo rn rl rp td br dk dl dg rs rm rd ro tm sk wd lx ts) bc bs Q := z_iast hd rfl h0 h1 ⟨by omega, by omega⟩ kk
theorem al_D_2 {a : Int} (hd : decode y.2.1 pc = .ok (.iaload, 1)) (h0 : 0 ≤ a) (h1 : a < 16) (kk : SJ g y d (pc + 1) L (.int (ii (dl a)) :: zst) (W_D dz lc fo rn rl rp td br dk dl dg rs rm rd ro tm sk wd lx ts) bc bs Q) : SJ g y d pc L (.int (ii a) :: .ref 2 :: zst) (W_D dz lc fo rn rl rp td br dk dl dg rs rm rd ro tm sk wd lx ts) bc bs Q := z_iald hd rfl h0 h1 ⟨by omega, by omega⟩ kk
theorem as_D_2 {a v : Int} (hd : decode y.2.1 pc = .ok (.iastore, 1)) (h0 : 0 ≤ a) (h1 : a < 16) (kk : SJ g y d (pc + 1) L zst (W_D dz lc fo rn rl rp td br dk (up dl a v) dg rs rm rd ro tm sk wd lx ts) bc bs Q) : SJ g y d pc L (.int (ii v) :: .int (ii a) :: .ref 2 :: zst) (W_D dz lc fo rn rl rp td br dk dl dg rs rm rd ro tm sk wd lx ts) bc bs Q := z_iast hd rfl h0 h1 ⟨by omega, by omega⟩ kk
theorem al_D_3 {a : Int} (hd : decode y.2.1 pc = .ok (.iaload, 1)) (h0 : 0 ≤ a) (h1 : a < 16) (kk : SJ g y d (pc + 1) L (.int (ii (dg a)) :: zst) (W_D dz lc fo rn rl rp td br dk dl dg rs rm rd ro tm sk wd lx ts) bc bs Q) : SJ g y d pc L (.int (ii a) :: .ref 3 :: zst) (W_D dz lc fo rn rl rp td br dk dl dg rs rm rd ro tm sk wd lx ts) bc bs Q := z_iald hd rfl h0 h1 ⟨by omega, by omega⟩ kk
theorem as_D_3 {a v : Int} (hd : decode y.2.1 pc = .ok (.iastore, 1)) (h0 : 0 ≤ a) (h1 : a < 16) (kk : SJ g y d (pc + 1) L zst (W_D dz lc fo rn rl rp td br dk dl (up dg a v) rs rm rd ro tm sk wd lx ts) bc bs Q) : SJ g y d pc L (.int (ii v) :: .int (ii a) :: .ref 3 :: zst) (W_D dz lc fo rn rl rp td br dk dl dg rs rm rd ro tm sk wd lx ts) bc bs Q := z_iast hd rfl h0 h1 ⟨by omega, by omega⟩ kk
theorem gf_D_4_0 {idx : Nat} (hf : x_fs y.1.cls idx 7 0) (hd : decode y.2.1 pc = .ok (.getfield idx, 3)) (kk : SJ g y d (pc + 3) L (.ref 5 :: zst) (W_D dz lc fo rn rl rp td br dk dl dg rs rm rd ro tm sk wd lx ts) bc bs Q) : SJ g y d pc L (.ref 4 :: zst) (W_D dz lc fo rn rl rp td br dk dl dg rs rm rd ro tm sk wd lx ts) bc bs Q := j_getf hd hf rfl rfl kk
theorem gf_D_4_1 {idx : Nat} (hf : x_fs y.1.cls idx 7 1) (hd : decode y.2.1 pc = .ok (.getfield idx, 3)) (kk : SJ g y d (pc + 3) L (.ref 10 :: zst) (W_D dz lc fo rn rl rp td br dk dl dg rs rm rd ro tm sk wd lx ts) bc bs Q) : SJ g y d pc L (.ref 4 :: zst) (W_D dz lc fo rn rl rp td br dk dl dg rs rm rd ro tm sk wd lx ts) bc bs Q := j_getf hd hf rfl rfl kk
theorem gf_D_4_2 {idx : Nat} (hf : x_fs y.1.cls idx 7 2) (hd : decode y.2.1 pc = .ok (.getfield idx, 3)) (kk : SJ g y d (pc + 3) L (.ref 15 :: zst) (W_D dz lc fo rn rl rp td br dk dl dg rs rm rd ro tm sk wd lx ts) bc bs Q) : SJ g y d pc L (.ref 4 :: zst) (W_D dz lc fo rn rl rp td br dk dl dg rs rm rd ro tm sk wd lx ts) bc bs Q := j_getf hd hf rfl rfl kk
theorem gf_D_4_3 {idx : Nat} (hf : x_fs y.1.cls idx 7 3) (hd : decode y.2.1 pc = .ok (.getfield idx, 3)) (kk : SJ g y d (pc + 3) L (.int (ii lc) :: zst) (W_D dz lc fo rn rl rp td br dk dl dg rs rm rd ro tm sk wd lx ts) bc bs Q) : SJ g y d pc L (.ref 4 :: zst) (W_D dz lc fo rn rl rp td br dk dl dg rs rm rd ro tm sk wd lx ts) bc bs Q := j_getf hd hf rfl rfl kk
theorem pf_D_4_3 {idx : Nat} {v : Int} (hf : x_fs y.1.cls idx 7 3) (hd : decode y.2.1 pc = .ok (.putfield idx, 3)) (kk : SJ g y d (pc + 3) L zst (W_D dz v fo rn rl rp td br dk dl dg rs rm rd ro tm sk wd lx ts) bc bs Q) : SJ g y d pc L (.int (ii v) :: .ref 4 :: zst) (W_D dz lc fo rn rl rp td br dk dl dg rs rm rd ro tm sk wd lx ts) bc bs Q := j_putf (ci := 7) (k := 3) hd hf ⟨_, rfl, rfl, rfl⟩ rfl (Nat.le_of_ble_eq_true rfl) x_okI kk
theorem gf_D_4_4 {idx : Nat} (hf : x_fs y.1.cls idx 7 4) (hd : decode y.2.1 pc = .ok (.getfield idx, 3)) (kk : SJ g y d (pc + 3) L (.int (ii fo) :: zst) (W_D dz lc fo rn rl rp td br dk dl dg rs rm rd ro tm sk wd lx ts) bc bs Q) : SJ g y d pc L (.ref 4 :: zst) (W_D dz lc fo rn rl rp td br dk dl dg rs rm rd ro tm sk wd lx ts) bc bs Q := j_getf hd hf rfl rfl kk
theorem pf_D_4_4 {idx : Nat} {v : Int} (hf : x_fs y.1.cls idx 7 4) (hd : decode y.2.1 pc = .ok (.putfield idx, 3)) (kk : SJ g y d (pc + 3) L zst (W_D dz lc v rn rl rp td br dk dl dg rs rm rd ro tm sk wd lx ts) bc bs Q) : SJ g y d pc L (.int (ii v) :: .ref 4 :: zst) (W_D dz lc fo rn rl rp td br dk dl dg rs rm rd ro tm sk wd lx ts) bc bs Q := j_putf (ci := 7) (k := 4) hd hf ⟨_, rfl, rfl, rfl⟩ rfl (Nat.le_of_ble_eq_true rfl) x_okI kk
theorem gf_D_5_0 {idx : Nat} (hf : x_fs y.1.cls idx 5 0) (hd : decode y.2.1 pc = .ok (.getfield idx, 3)) (kk : SJ g y d (pc + 3) L (.ref 6 :: zst) (W_D dz lc fo rn rl rp td br dk dl dg rs rm rd ro tm sk wd lx ts) bc bs Q) : SJ g y d pc L (.ref 5 :: zst) (W_D dz lc fo rn rl rp td br dk dl dg rs rm rd ro tm sk wd lx ts) bc bs Q := j_getf hd hf rfl rfl kk
theorem gf_D_5_1 {idx : Nat} (hf : x_fs y.1.cls idx 5 1) (hd : decode y.2.1 pc = .ok (.getfield idx, 3)) (kk : SJ g y d (pc + 3) L (.int (ii rn) :: zst) (W_D dz lc fo rn rl rp td br dk dl dg rs rm rd ro tm sk wd lx ts) bc bs Q) : SJ g y d pc L (.ref 5 :: zst) (W_D dz lc fo rn rl rp td br dk dl dg rs rm rd ro tm sk wd lx ts) bc bs Q := j_getf hd hf rfl rfl kk
theorem pf_D_5_1 {idx : Nat} {v : Int} (hf : x_fs y.1.cls idx 5 1) (hd : decode y.2.1 pc = .ok (.putfield idx, 3)) (kk : SJ g y d (pc + 3) L zst (W_D dz lc fo v rl rp td br dk dl dg rs rm rd ro tm sk wd lx ts) bc bs Q) : SJ g y d pc L (.int (ii v) :: .ref 5 :: zst) (W_D dz lc fo rn rl rp td br dk dl dg rs rm rd ro tm sk wd lx ts) bc bs Q := j_putf (ci := 5) (k := 1) hd hf ⟨_, rfl, rfl, rfl⟩ rfl (Nat.le_of_ble_eq_true rfl) x_okI kk
theorem gf_D_5_2 {idx : Nat} (hf : x_fs y.1.cls idx 5 2) (hd : decode y.2.1 pc = .ok (.getfield idx, 3)) (kk : SJ g y d (pc + 3) L (.ref 7 :: zst) (W_D dz lc fo rn rl rp td br dk dl dg rs rm rd ro tm sk wd lx ts) bc bs Q) : SJ g y d pc L (.ref 5 :: zst) (W_D dz lc fo rn rl rp td br dk dl dg rs rm rd ro tm sk wd lx ts) bc bs Q := j_getf hd hf rfl rfl kk
theorem gf_D_5_3 {idx : Nat} (hf : x_fs y.1.cls idx 5 3) (hd : decode y.2.1 pc = .ok (.getfield idx, 3)) (kk : SJ g y d (pc + 3) L (.ref 8 :: zst) (W_D dz lc fo rn rl rp td br dk dl dg rs rm rd ro tm sk wd lx ts) bc bs Q) : SJ g y d pc L (.ref 5 :: zst) (W_D dz lc fo rn rl rp td br dk dl dg rs rm rd ro tm sk wd lx ts) bc bs Q := j_getf hd hf rfl rfl kk
theorem gf_D_5_4 {idx : Nat} (hf : x_fs y.1.cls idx 5 4) (hd : decode y.2.1 pc = .ok (.getfield idx, 3)) (kk : SJ g y d (pc + 3) L (.ref 9 :: zst) (W_D dz lc fo rn rl rp td br dk dl dg rs rm rd ro tm sk wd lx ts) bc bs Q) : SJ g y d pc L (.ref 5 :: zst) (W_D dz lc fo rn rl rp td br dk dl dg rs rm rd ro tm sk wd lx ts) bc bs Q := j_getf hd hf rfl rfl kk
theorem gf_D_5_5 {idx : Nat} (hf : x_fs y.1.cls idx 5 5) (hd : decode y.2.1 pc = .ok (.getfield idx, 3)) (kk : SJ g y d (pc + 3) L (.int (ii rl) :: zst) (W_D dz lc fo rn rl rp td br dk dl dg rs rm rd ro tm sk wd lx ts) bc bs Q) : SJ g y d pc L (.ref 5 :: zst) (W_D dz lc fo rn rl rp td br dk dl dg rs rm rd ro tm sk wd lx ts) bc bs Q := j_getf hd hf rfl rfl kk
theorem pf_D_5_5 {idx : Nat} {v : Int} (hf : x_fs y.1.cls idx 5 5) (hd : decode y.2.1 pc = .ok (.putfield idx, 3)) (kk : SJ g y d (pc + 3) L zst (W_D dz lc fo rn v rp td br dk dl dg rs rm rd ro tm sk wd lx ts) bc bs Q) : SJ g y d pc L (.int (ii v) :: .ref 5 :: zst) (W_D dz lc fo rn rl rp td br dk dl dg rs rm rd ro tm sk wd lx ts) bc bs Q := j_putf (ci := 5) (k := 5) hd hf ⟨_, rfl, rfl, rfl⟩ rfl (Nat.le_of_ble_eq_true rfl) x_okI kk
theorem gf_D_5_6 {idx : Nat} (hf : x_fs y.1.cls idx 5 6) (hd : decode y.2.1 pc = .ok (.getfield idx, 3)) (kk : SJ g y d (pc + 3) L (.int (ii rp) :: zst) (W_D dz lc fo rn rl rp td br dk dl dg rs rm rd ro tm sk wd lx ts) bc bs Q) : SJ g y d pc L (.ref 5 :: zst) (W_D dz lc fo rn rl rp td br dk dl dg rs rm rd ro tm sk wd lx ts) bc bs Q := j_getf hd hf rfl rfl kk
theorem pf_D_5_6 {idx : Nat} {v : Int} (hf : x_fs y.1.cls idx 5 6) (hd : decode y.2.1 pc = .ok (.putfield idx, 3)) (hv : v = 0 ∨ v = 1) (kk : SJ g y d (pc + 3) L zst (W_D dz lc fo rn rl v td br dk dl dg rs rm rd ro tm sk wd lx ts) bc bs Q) : SJ g y d pc L (.int (ii v) :: .ref 5 :: zst) (W_D dz lc fo rn rl rp td br dk dl dg rs rm rd ro tm sk wd lx ts) bc bs Q := j_putf (ci := 5) (k := 6) hd hf ⟨_, rfl, rfl, rfl⟩ rfl (Nat.le_of_ble_eq_true rfl) (by rcases hv with rfl | rfl; exact x_ok0; exact x_ok1) kk
theorem al_D_6 {a : Int} (hd : decode y.2.1 pc = .ok (.iaload, 1)) (h0 : 0 ≤ a) (h1 : a < 20) (kk : SJ g y d (pc + 1) L (.int (ii (rs a)) :: zst) (W_D dz lc fo rn rl rp td br dk dl dg rs rm rd ro tm sk wd lx ts) bc bs Q) : SJ g y d pc L (.int (ii a) :: .ref 6 :: zst) (W_D dz lc fo rn rl rp td br dk dl dg rs rm rd ro tm sk wd lx ts) bc bs Q := z_iald hd rfl h0 h1 ⟨by omega, by omega⟩ kk
theorem as_D_6 {a v : Int} (hd : decode y.2.1 pc = .ok (.iastore, 1)) (h0 : 0 ≤ a) (h1 : a < 20) (kk : SJ g y d (pc + 1) L zst (W_D dz lc fo rn rl rp td br dk dl dg (up rs a v) rm rd ro tm sk wd lx ts) bc bs Q) : SJ g y d pc L (.int (ii v) :: .int (ii a) :: .ref 6 :: zst) (W_D dz lc fo rn rl rp td br dk dl dg rs rm rd ro tm sk wd lx ts) bc bs Q := z_iast hd rfl h0 h1 ⟨by omega, by omega⟩ kk
theorem al_D_7 {a : Int} (hd : decode y.2.1 pc = .ok (.iaload, 1)) (h0 : 0 ≤ a) (h1 : a < 20) (kk : SJ g y d (pc + 1) L (.int (ii (rm a)) :: zst) (W_D dz lc fo rn rl rp td br dk dl dg rs rm rd ro tm sk wd lx ts) bc bs Q) : SJ g y d pc L (.int (ii a) :: .ref 7 :: zst) (W_D dz lc fo rn rl rp td br dk dl dg rs rm rd ro tm sk wd lx ts) bc bs Q := z_iald hd rfl h0 h1 ⟨by omega, by omega⟩ kk
theorem as_D_7 {a v : Int} (hd : decode y.2.1 pc = .ok (.iastore, 1)) (h0 : 0 ≤ a) (h1 : a < 20) (kk : SJ g y d (pc + 1) L zst (W_D dz lc fo rn rl rp td br dk dl dg rs (up rm a v) rd ro tm sk wd lx ts) bc bs Q) : SJ g y d pc L (.int (ii v) :: .int (ii a) :: .ref 7 :: zst) (W_D dz lc fo rn rl rp td br dk dl dg rs rm rd ro tm sk wd lx ts) bc bs Q := z_iast hd rfl h0 h1 ⟨by omega, by omega⟩ kk
theorem al_D_8 {a : Int} (hd : decode y.2.1 pc = .ok (.iaload, 1)) (h0 : 0 ≤ a) (h1 : a < 20) (kk : SJ g y d (pc + 1) L (.int (ii (rd a)) :: zst) (W_D dz lc fo rn rl rp td br dk dl dg rs rm rd ro tm sk wd lx ts) bc bs Q) : SJ g y d pc L (.int (ii a) :: .ref 8 :: zst) (W_D dz lc fo rn rl rp td br dk dl dg rs rm rd ro tm sk wd lx ts) bc bs Q := z_iald hd rfl h0 h1 ⟨by omega, by omega⟩ kk
theorem as_D_8 {a v : Int} (hd : decode y.2.1 pc = .ok (.iastore, 1)) (h0 : 0 ≤ a) (h1 : a < 20) (kk : SJ g y d (pc + 1) L zst (W_D dz lc fo rn rl rp td br dk dl dg rs rm (up rd a v) ro tm sk wd lx ts) bc bs Q) : SJ g y d pc L (.int (ii v) :: .int (ii a) :: .ref 8 :: zst) (W_D dz lc fo rn rl rp td br dk dl dg rs rm rd ro tm sk wd lx ts) bc bs Q := z_iast hd rfl h0 h1 ⟨by omega, by omega⟩ kk
theorem al_D_9 {a : Int} (hd : decode y.2.1 pc = .ok (.iaload, 1)) (h0 : 0 ≤ a) (h1 : a < 20) (kk : SJ g y d (pc + 1) L (.int (ii (ro a)) :: zst) (W_D dz lc fo rn rl rp td br dk dl dg rs rm rd ro tm sk wd lx ts) bc bs Q) : SJ g y d pc L (.int (ii a) :: .ref 9 :: zst) (W_D dz lc fo rn rl rp td br dk dl dg rs rm rd ro tm sk wd lx ts) bc bs Q := z_iald hd rfl h0 h1 ⟨by omega, by omega⟩ kk
theorem as_D_9 {a v : Int} (hd : decode y.2.1 pc = .ok (.iastore, 1)) (h0 : 0 ≤ a) (h1 : a < 20) (kk : SJ g y d (pc + 1) L zst (W_D dz lc fo rn rl rp td br dk dl dg rs rm rd (up ro a v) tm sk wd lx ts) bc bs Q) : SJ g y d pc L (.int (ii v) :: .int (ii a) :: .ref 9 :: zst) (W_D dz lc fo rn rl rp td br dk dl dg rs rm rd ro tm sk wd lx ts) bc bs Q := z_iast hd rfl h0 h1 ⟨by omega, by omega⟩ kk
theorem al_D_10 {a : Int} (hd : decode y.2.1 pc = .ok (.iaload, 1)) (h0 : 0 ≤ a) (h1 : a < 3) (kk : SJ g y d (pc + 1) L (.int (ii (tm a)) :: zst) (W_D dz lc fo rn rl rp td br dk dl dg rs rm rd ro tm sk wd lx ts) bc bs Q) : SJ g y d pc L (.int (ii a) :: .ref 10 :: zst) (W_D dz lc fo rn rl rp td br dk dl dg rs rm rd ro tm sk wd lx ts) bc bs Q := z_iald hd rfl h0 h1 ⟨by omega, by omega⟩ kk
theorem as_D_10 {a v : Int} (hd : decode y.2.1 pc = .ok (.iastore, 1)) (h0 : 0 ≤ a) (h1 : a < 3) (kk : SJ g y d (pc + 1) L zst (W_D dz lc fo rn rl rp td br dk dl dg rs rm rd ro (up tm a v) sk wd lx ts) bc bs Q) : SJ g y d pc L (.int (ii v) :: .int (ii a) :: .ref 10 :: zst) (W_D dz lc fo rn rl rp td br dk dl dg rs rm rd ro tm sk wd lx ts) bc bs Q := z_iast hd rfl h0 h1 ⟨by omega, by omega⟩ kk
theorem gf_D_11_0 {idx : Nat} (hf : x_fs y.1.cls idx 0 0) (hd : decode y.2.1 pc = .ok (.getfield idx, 3)) (kk : SJ g y d (pc + 3) L (.ref 12 :: zst) (W_D dz lc fo rn rl rp td br dk dl dg rs rm rd ro tm sk wd lx ts) bc bs Q) : SJ g y d pc L (.ref 11 :: zst) (W_D dz lc fo rn rl rp td br dk dl dg rs rm rd ro tm sk wd lx ts) bc bs Q := j_getf hd hf rfl rfl kk
theorem gf_D_11_1 {idx : Nat} (hf : x_fs y.1.cls idx 0 1) (hd : decode y.2.1 pc = .ok (.getfield idx, 3)) (kk : SJ g y d (pc + 3) L (.ref 14 :: zst) (W_D dz lc fo rn rl rp td br dk dl dg rs rm rd ro tm sk wd lx ts) bc bs Q) : SJ g y d pc L (.ref 11 :: zst) (W_D dz lc fo rn rl rp td br dk dl dg rs rm rd ro tm sk wd lx ts) bc bs Q := j_getf hd hf rfl rfl kk
theorem gf_D_11_2 {idx : Nat} (hf : x_fs y.1.cls idx 0 2) (hd : decode y.2.1 pc = .ok (.getfield idx, 3)) (kk : SJ g y d (pc + 3) L (.int (ii td) :: zst) (W_D dz lc fo rn rl rp td br dk dl dg rs rm rd ro tm sk wd lx ts) bc bs Q) : SJ g y d pc L (.ref 11 :: zst) (W_D dz lc fo rn rl rp td br dk dl dg rs rm rd ro tm sk wd lx ts) bc bs Q := j_getf hd hf rfl rfl kk
theorem pf_D_11_2 {idx : Nat} {v : Int} (hf : x_fs y.1.cls idx 0 2) (hd : decode y.2.1 pc = .ok (.putfield idx, 3)) (kk : SJ g y d (pc + 3) L zst (W_D dz lc fo rn rl rp v br dk dl dg rs rm rd ro tm sk wd lx ts) bc bs Q) : SJ g y d pc L (.int (ii v) :: .ref 11 :: zst) (W_D dz lc fo rn rl rp td br dk dl dg rs rm rd ro tm sk wd lx ts) bc bs Q := j_putf (ci := 0) (k := 2) hd hf ⟨_, rfl, rfl, rfl⟩ rfl (Nat.le_of_ble_eq_true rfl) x_okI kk
theorem gf_D_12_0 {idx : Nat} (hf : x_fs y.1.cls idx 8 0) (hd : decode y.2.1 pc = .ok (.getfield idx, 3)) (kk : SJ g y d (pc + 3) L (.int (ii br) :: zst) (W_D dz lc fo rn rl rp td br dk dl dg rs rm rd ro tm sk wd lx ts) bc bs Q) : SJ g y d pc L (.ref 12 :: zst) (W_D dz lc fo rn rl rp td br dk dl dg rs rm rd ro tm sk wd lx ts) bc bs Q := j_getf hd hf rfl rfl kk
theorem pf_D_12_0 {idx : Nat} {v : Int} (hf : x_fs y.1.cls idx 8 0) (hd : decode y.2.1 pc = .ok (.putfield idx, 3)) (hv : v = 0 ∨ v = 1) (kk : SJ g y d (pc + 3) L zst (W_D dz lc fo rn rl rp td v dk dl dg rs rm rd ro tm sk wd lx ts) bc bs Q) : SJ g y d pc L (.int (ii v) :: .ref 12 :: zst) (W_D dz lc fo rn rl rp td br dk dl dg rs rm rd ro tm sk wd lx ts) bc bs Q := j_putf (ci := 8) (k := 0) hd hf ⟨_, rfl, rfl, rfl⟩ rfl (Nat.le_of_ble_eq_true rfl) (by rcases hv with rfl | rfl; exact x_ok0; exact x_ok1) kk
theorem gf_D_12_1 {idx : Nat} (hf : x_fs y.1.cls idx 8 1) (hd : decode y.2.1 pc = .ok (.getfield idx, 3)) (kk : SJ g y d (pc + 3) L (.ref 13 :: zst) (W_D dz lc fo rn rl rp td br dk dl dg rs rm rd ro tm sk wd lx ts) bc bs Q) : SJ g y d pc L (.ref 12 :: zst) (W_D dz lc fo rn rl rp td br dk dl dg rs rm rd ro tm sk wd lx ts) bc bs Q := j_getf hd hf rfl rfl kk
theorem al_D_13 {a : Int} (hd : decode y.2.1 pc = .ok (.iaload, 1)) (h0 : 0 ≤ a) (h1 : a < 51) (kk : SJ g y d (pc + 1) L (.int (ii (sk a)) :: zst) (W_D dz lc fo rn rl rp td br dk dl dg rs rm rd ro tm sk wd lx ts) bc bs Q) : SJ g y d pc L (.int (ii a) :: .ref 13 :: zst) (W_D dz lc fo rn rl rp td br dk dl dg rs rm rd ro tm sk wd lx ts) bc bs Q := z_iald hd rfl h0 h1 ⟨by omega, by omega⟩ kk
theorem as_D_13 {a v : Int} (hd : decode y.2.1 pc = .ok (.iastore, 1)) (h0 : 0 ≤ a) (h1 : a < 51) (kk : SJ g y d (pc + 1) L zst (W_D dz lc fo rn rl rp td br dk dl dg rs rm rd ro tm (up sk a v) wd lx ts) bc bs Q) : SJ g y d pc L (.int (ii v) :: .int (ii a) :: .ref 13 :: zst) (W_D dz lc fo rn rl rp td br dk dl dg rs rm rd ro tm sk wd lx ts) bc bs Q := z_iast hd rfl h0 h1 ⟨by omega, by omega⟩ kk
theorem al_D_14 {a : Int} (hd : decode y.2.1 pc = .ok (.iaload, 1)) (h0 : 0 ≤ a) (h1 : a < 52) (kk : SJ g y d (pc + 1) L (.int (ii (wd a)) :: zst) (W_D dz lc fo rn rl rp td br dk dl dg rs rm rd ro tm sk wd lx ts) bc bs Q) : SJ g y d pc L (.int (ii a) :: .ref 14 :: zst) (W_D dz lc fo rn rl rp td br dk dl dg rs rm rd ro tm sk wd lx ts) bc bs Q := z_iald hd rfl h0 h1 ⟨by omega, by omega⟩ kk
theorem as_D_14 {a v : Int} (hd : decode y.2.1 pc = .ok (.iastore, 1)) (h0 : 0 ≤ a) (h1 : a < 52) (kk : SJ g y d (pc + 1) L zst (W_D dz lc fo rn rl rp td br dk dl dg rs rm rd ro tm sk (up wd a v) lx ts) bc bs Q) : SJ g y d pc L (.int (ii v) :: .int (ii a) :: .ref 14 :: zst) (W_D dz lc fo rn rl rp td br dk dl dg rs rm rd ro tm sk wd lx ts) bc bs Q := z_iast hd rfl h0 h1 ⟨by omega, by omega⟩ kk
end WR_D
theorem E_D_Row {g : Bool} {y : xY} {d : Nat} {args as2 : List Value} {Q : List xM → Option Value → Prop} {dz lc fo rn rl rp td br : Int} {dk dl dg rs rm rd ro tm sk wd : Int → Int} {lx : Nat → Option Nat} {ts : List TD} (h : ∀ Q2 : List xM → Option Value → Prop, (∀ (rn_ : Int) (rl_ : Int) (rp_ : Int) (rs_ : Int → Int) (rm_ : Int → Int) (rd_ : Int → Int) (ro_ : Int → Int) (r : Option Value), r.map (r_v (sgl [5, 6, 7, 8, 9] 10)) = r → Q (W_D dz lc fo rn_ rl_ rp_ td br dk dl dg rs_ rm_ rd_ ro_ tm sk wd lx ts) r → Q2 (W_Row rn_ rl_ rp_ rs_ rm_ rd_ ro_) r) → CT false y d args (W_Row rn rl rp rs rm rd ro) 0 0 Q2) (ha2 : as2 = args.map (r_v (sgl [5, 6, 7, 8, 9] 10))) : CT g y d as2 (W_D dz lc fo rn rl rp td br dk dl dg rs rm rd ro tm sk wd lx ts) 0 0 Q :=
  CT.sub (sgl [5, 6, 7, 8, 9] 10) (sgl_inj (by decide) (by decide)) (Emb.hs (Emb.cons rfl (Emb.cons rfl (Emb.cons rfl (Emb.cons rfl (Emb.cons rfl (Emb.nil))))))) ha2 (h _ (fun _ _ _ _ _ _ _ r hr hq => ⟨rfl, by rw [hr]; exact hq⟩))
theorem E_D_AK {g : Bool} {y : xY} {d : Nat} {args as2 : List Value} {Q : List xM → Option Value → Prop} {dz lc fo rn rl rp td br : Int} {dk dl dg rs rm rd ro tm sk wd : Int → Int} {lx : Nat → Option Nat} {ts : List TD} {j : Nat} {t : TD} (hj : ts[j]? = some t) (h : ∀ Q2 : List xM → Option Value → Prop, (∀ (td_ br_ : Int) (sk_ wd_ : Int → Int) (r : Option Value), r.map (r_v (sgl [11, 12, 13, 14, 4, 5, 10, 16 + 8 * j, 16 + 8 * j + 1, 16 + 8 * j + 2, 16 + 8 * j + 3, 16 + 8 * j + 4, 16 + 8 * j + 5, 16 + 8 * j + 6, 16 + 8 * j + 7, 15, 6, 7, 8, 9] (16 + 8 * j + 8))) = r → Q (W_D dz lc fo rn rl rp td_ br_ dk dl dg rs rm rd ro tm sk_ wd_ lx ts) r → Q2 (W_AK td_ br_ lc fo rn rl rp t.1 t.2.1 sk_ wd_ tm t.2.2.1 t.2.2.2.1 t.2.2.2.2.1 t.2.2.2.2.2.1 t.2.2.2.2.2.2.1 t.2.2.2.2.2.2.2.1 t.2.2.2.2.2.2.2.2 t.1.toNat t.2.1.toNat) r) → CT false y d args (W_AK td br lc fo rn rl rp t.1 t.2.1 sk wd tm t.2.2.1 t.2.2.2.1 t.2.2.2.2.1 t.2.2.2.2.2.1 t.2.2.2.2.2.2.1 t.2.2.2.2.2.2.2.1 t.2.2.2.2.2.2.2.2 t.1.toNat t.2.1.toNat) 0 0 Q2) (ha2 : as2 = args.map (r_v (sgl [11, 12, 13, 14, 4, 5, 10, 16 + 8 * j, 16 + 8 * j + 1, 16 + 8 * j + 2, 16 + 8 * j + 3, 16 + 8 * j + 4, 16 + 8 * j + 5, 16 + 8 * j + 6, 16 + 8 * j + 7, 15, 6, 7, 8, 9] (16 + 8 * j + 8)))) : CT g y d as2 (W_D dz lc fo rn rl rp td br dk dl dg rs rm rd ro tm sk wd lx ts) 0 0 Q := by
  have h_at : ∀ m, m < 8 → (W_D dz lc fo rn rl rp td br dk dl dg rs rm rd ro tm sk wd lx ts)[16 + 8 * j + m]? = (tdC (16 + 8 * j) t)[m]? := fun m hm => DT_at rfl hj hm
  refine CT.subT (cs := [.inr (0, [.ref 1, .ref 3, .int (ii td)]), .inr (8, [.int (ii br), .ref 2]), .inl (0, 51, .inl (ia (sk))), .inl (0, 52, .inl (ia (wd))), .inr (7, [.ref 5, .ref 6, .ref 15, .int (ii lc), .int (ii fo)]), .inr (5, [.ref 16, .int (ii rn), .ref 17, .ref 18, .ref 19, .int (ii rl), .int (ii rp)]), .inl (0, 3, .inl (ia (tm)))]) (T := [.inr (10, [.ref 8, .ref 9, .ref 10, .ref 11, .ref 12, .ref 13, .ref 14, .int (ii (t.1)), .int (ii (t.2.1))]), .inl (0, (t.1.toNat), .inl (ia ((t.2.2.1)))), .inl (0, (t.1.toNat), .inl (ia ((t.2.2.2.1)))), .inl (0, (t.1.toNat), .inl (ia ((t.2.2.2.2.1)))), .inl (0, (t.1.toNat), .inl (ia ((t.2.2.2.2.2.1)))), .inl (0, (t.1.toNat), .inl (ia ((t.2.2.2.2.2.2.1)))), .inl (0, (t.2.1.toNat), .inl (ia ((t.2.2.2.2.2.2.2.1)))), .inl (0, (t.2.1.toNat), .inl (ia ((t.2.2.2.2.2.2.2.2))))]) (sgl [11, 12, 13, 14, 4, 5, 10, 16 + 8 * j, 16 + 8 * j + 1, 16 + 8 * j + 2, 16 + 8 * j + 3, 16 + 8 * j + 4, 16 + 8 * j + 5, 16 + 8 * j + 6, 16 + 8 * j + 7, 15, 6, 7, 8, 9] (16 + 8 * j + 8)) (sgl_inj ?_ ?_) ?_ ?_ ha2 (h _ (fun td_ br_ sk_ wd_ r hr hq => ⟨[.inr (0, [.ref 1, .ref 3, .int (ii td_)]), .inr (8, [.int (ii br_), .ref 2]), .inl (0, 51, .inl (ia (sk_))), .inl (0, 52, .inl (ia (wd_))), .inr (7, [.ref 5, .ref 6, .ref 15, .int (ii lc), .int (ii fo)]), .inr (5, [.ref 16, .int (ii rn), .ref 17, .ref 18, .ref 19, .int (ii rl), .int (ii rp)]), .inl (0, 3, .inl (ia (tm)))], rfl, rfl, by rw [hr]; exact hq⟩))
  · simp only [List.nodup_cons, List.mem_cons, List.not_mem_nil, or_false, not_or, List.nodup_nil, and_true, not_false_eq_true]
    omega
  · simp only [List.mem_cons, List.not_mem_nil, or_false]
    omega
  · exact Emb.cons rfl (Emb.cons rfl (Emb.cons rfl (Emb.cons rfl (Emb.cons rfl (Emb.cons rfl (Emb.cons rfl (Emb.nil)))))))
  · exact (Emb.cons (h_at 0 (by decide)) (Emb.cons (h_at 1 (by decide)) (Emb.cons (h_at 2 (by decide)) (Emb.cons (h_at 3 (by decide)) (Emb.cons (h_at 4 (by decide)) (Emb.cons (h_at 5 (by decide)) (Emb.cons (h_at 6 (by decide)) (Emb.cons (h_at 7 (by decide)) Emb.nil))))))))
theorem t_D_isBarred {g : Bool} {d : Nat} {Q : List xM → Option Value → Prop} {dz lc fo rn rl rp td br : Int} {dk dl dg rs rm rd ro tm sk wd : Int → Int} {lx : Nat → Option Nat} {ts : List TD} {K : Int → Int} (hn_ : rn = K 0) (ht0 : tm 0 = K 21) (ht2 : tm 2 = K 23) {lv : Value} (hLV : LV K 16 ts lv) {s p : Int} (s0 : 0 ≤ s) (s1 : s ≤ 11) (p0 : 0 ≤ p) (p1 : p ≤ 20) (ht : tl K 4 s p 0 = 1 → ∀ tdz brz skz wdz, Q (W_D dz lc fo rn rl rp tdz brz dk dl dg rs rm rd ro tm skz wdz lx ts) (some (.int (ii 1)))) (hf : ¬ tl K 4 s p 0 = 1 → ∀ tdz brz skz wdz, Q (W_D dz lc fo rn rl rp tdz brz dk dl dg rs rm rd ro tm skz wdz lx ts) (some (.int (ii 0)))) : CT g m_Ask_isBarred (d + 3) [.ref 11, .ref 4, lv, .int (ii s), .int (ii p)] (W_D dz lc fo rn rl rp td br dk dl dg rs rm rd ro tm sk wd lx ts) 0 0 Q := by
  rcases hLV with ⟨rfl, hz⟩ | ⟨j, t, rfl, hj, hB, hLR⟩
  · exact n_Ask_isBarred (hf (by rw [tl_no hz]; decide) _ _ _ _)
  · obtain ⟨hb1, hb2, hb3, hb4⟩ := hB
    obtain ⟨tv, fv, fb, hev, hfn, hbr_, ham⟩ := hLR s p wd s0 s1 p0 p1
    rw [← hn_, ← ht0, ← ht2] at hev
    refine E_D_AK hj (fun Q2 kz => t_Ask_isBarred (by omega) (by omega) (by omega) hb3 (by omega) (by omega) (by omega) (by omega) hev (fun c c0 c1 => by have := hb4 c c0 c1; omega) (fun hx tdz brz skz => kz _ _ _ _ _ rfl (ht (hbr_.mp hx) _ _ _ _)) (fun hx tdz brz skz => kz _ _ _ _ _ rfl (hf (fun q => hx (hbr_.mpr q)) _ _ _ _))) rfl
theorem t_D_amount {g : Bool} {d : Nat} {Q : List xM → Option Value → Prop} {dz lc fo rn rl rp td br : Int} {dk dl dg rs rm rd ro tm sk wd : Int → Int} {lx : Nat → Option Nat} {ts : List TD} {K : Int → Int} (hn_ : rn = K 0) (ht0 : tm 0 = K 21) (ht2 : tm 2 = K 23) {lv : Value} (hLV : LV K 16 ts lv) {what s p : Int} (w0 : 0 ≤ what) (w1 : what ≤ 2) (s0 : 0 ≤ s) (s1 : s ≤ 11) (p0 : 0 ≤ p) (p1 : p ≤ 20) (hQ : ∀ tdz brz skz wdz, Q (W_D dz lc fo rn rl rp tdz brz dk dl dg rs rm rd ro tm skz wdz lx ts) (some (.int (ii (tl K (what + 1) s p 1))))) : CT g m_Ask_amount (d + 3) [.ref 11, .ref 4, lv, .int (ii what), .int (ii s), .int (ii p)] (W_D dz lc fo rn rl rp td br dk dl dg rs rm rd ro tm sk wd lx ts) 0 0 Q := by
  rcases hLV with ⟨rfl, hz⟩ | ⟨j, t, rfl, hj, hB, hLR⟩
  · rw [tl_no hz] at hQ
    exact n_Ask_amount (hQ _ _ _ _)
  · obtain ⟨hb1, hb2, hb3, hb4⟩ := hB
    obtain ⟨tv, fv, fb, hev, hfn, hbr_, ham⟩ := hLR s p wd s0 s1 p0 p1
    rw [← hn_, ← ht0, ← ht2] at hev
    rw [← ham what w0 w1] at hQ
    refine E_D_AK hj (fun Q2 kz => t_Ask_amount (by omega) (by omega) (by omega) hb3 (by omega) (by omega) (by omega) (by omega) (by omega) hev (fun c c0 c1 => by have := hb4 c c0 c1; omega) (fun c c0 c1 ce => hfn c c0 c1 (by omega)) (fun tdz brz skz => kz _ _ _ _ _ rfl (hQ _ _ _ _))) rfl
theorem t_D_lawOf {g : Bool} {d : Nat} {Q : List xM → Option Value → Prop} {dz lc fo rn rl rp td br : Int} {dk dl dg rs rm rd ro tm sk wd : Int → Int} {lx : Nat → Option Nat} {ts : List TD} {K : Int → Int} (hS : SI K lc fo rn rl rp rs rm rd tm) (hX : LX K lx ts) (hQ : ∀ lv, LV K 16 ts lv → Q (W_D dz lc fo rn rl rp td br dk dl dg rs rm rd ro tm sk wd lx ts) (some lv)) : CT g m_Sta_lawOf d [.ref 4, .int (ii fo)] (W_D dz lc fo rn rl rp td br dk dl dg rs rm rd ro tm sk wd lx ts) 0 0 Q := by
  refine CT.of (by decide) (Nat.le_of_ble_eq_true rfl) ?_
  show SJ _ _ _ _ [some (.ref 4), some (.int (ii fo))] [] _ _ _ _
  obtain ⟨hR, hKR, htm0, htm1, htm2, hlc, hfo⟩ := id hS
  obtain ⟨hrn, ⟨hn0, hn1⟩, hrs, hrp, hpu⟩ := id hR
  obtain ⟨⟨kn0, kn1⟩, kns, ⟨kp0, kp1⟩, ⟨kd0, kd1⟩, ⟨km0, km1⟩, ⟨kt0, kt1⟩, ⟨kf0, kf1⟩⟩ := id hKR
  refine j_iload_n d_Sta_lawOf_0 rfl ?_
  refine z_if_lt (t := 21) d_Sta_lawOf_1 (by decide) (by first | omega | exact hw _ | exact hx _ _ | assumption) (fun h1 => ?_) (fun h1 => ?_)
  · refine j_null d_Sta_lawOf_21 ?_
    exact j_areturn rfl (Or.inl ⟨_, rfl⟩) (Or.inl rfl) d_Sta_lawOf_22 (hQ _ (Or.inl ⟨rfl, by omega⟩))
  · refine j_iload_n d_Sta_lawOf_4 rfl ?_
    refine j_aload_n d_Sta_lawOf_5 rfl ?_
    refine gf_D_4_3 f_Sta_28 d_Sta_lawOf_6 ?_
    refine z_icmp_ge (t := 21) d_Sta_lawOf_9 (by decide) (by first | omega | exact hw _ | exact hx _ _ | assumption) (by first | omega | exact hw _ | exact hx _ _ | assumption) (fun h9 => ?_) (fun h9 => ?_)
    · refine j_null d_Sta_lawOf_21 ?_
      exact j_areturn rfl (Or.inl ⟨_, rfl⟩) (Or.inl rfl) d_Sta_lawOf_22 (hQ _ (Or.inl ⟨rfl, by omega⟩))
    · refine j_aload_n d_Sta_lawOf_12 rfl ?_
      refine gf_D_4_2 f_Sta_24 d_Sta_lawOf_13 ?_
      refine j_iload_n d_Sta_lawOf_16 rfl ?_
      refine z_aald d_Sta_lawOf_17 rfl (Or.inl rfl) (by omega) (by omega) (by omega) ?_
      refine j_goto (t := 22) d_Sta_lawOf_18 (by decide) ?_
      obtain ⟨j, t, e1, e2, e3⟩ := hX (by omega)
      rw [← hfo] at e1
      rw [show lwR 16 lx fo.toNat = some (16 + 8 * j) by unfold lwR; rw [e1]; rfl]
      exact j_areturn rfl (Or.inl ⟨_, rfl⟩) (Or.inr ⟨_, rfl⟩) d_Sta_lawOf_22 (hQ _ (Or.inr ⟨j, t, rfl, e2, e3⟩))
theorem t_Dee_forget {g : Bool} {d : Nat} {Q : List xM → Option Value → Prop} {dz lc fo rn rl rp td br : Int} {dk dl dg rs rm rd ro tm sk wd : Int → Int} {lx : Nat → Option Nat} {ts : List TD} (hQ : Q (W_D 0 lc fo rn rl rp td br dk dl dg rs rm rd ro tm sk wd lx ts) none) : CT g m_Dee_forget d [.ref 0] (W_D dz lc fo rn rl rp td br dk dl dg rs rm rd ro tm sk wd lx ts) 0 0 Q := by
  refine CT.of (by decide) (Nat.le_of_ble_eq_true rfl) ?_
  show SJ _ _ _ _ [some (.ref 0)] [] _ _ _ _
  refine j_aload_n d_Dee_forget_0 rfl ?_
  refine z_iconst d_Dee_forget_1 ?_
  refine pf_D_0_0 f_Dee_9 d_Dee_forget_2 ?_
  exact j_return rfl d_Dee_forget_5 hQ
theorem t_Dee_remember {g : Bool} {d : Nat} {Q : List xM → Option Value → Prop} {dz lc fo rn rl rp td br : Int} {dk dl dg rs rm rd ro tm sk wd : Int → Int} {lx : Nat → Option Nat} {ts : List TD} (d0 : 0 ≤ dz) (d1 : dz ≤ 16) {kz pz gz : Int} (hQ : Q (W_D (shU dz + 1) lc fo rn rl rp td br (rmD dk dz kz) (rmD dl dz pz) (rmD dg dz gz) rs rm rd ro tm sk wd lx ts) none) : CT g m_Dee_remember (d + 1) [.ref 0, .int (ii kz), .int (ii pz), .int (ii gz)] (W_D dz lc fo rn rl rp td br dk dl dg rs rm rd ro tm sk wd lx ts) 0 0 Q := by
  refine CT.of (by decide) (Nat.le_of_ble_eq_true rfl) ?_
  show SJ _ _ _ _ [some (.ref 0), some (.int (ii kz)), some (.int (ii pz)), some (.int (ii gz))] [] _ _ _ _
  refine j_aload_n d_Dee_remember_0 rfl ?_
  refine gf_D_0_0 f_Dee_9 d_Dee_remember_1 ?_
  refine z_bipush d_Dee_remember_4 (by decide) ?_
  refine z_icmp_ne (t := 70) d_Dee_remember_6 (by decide) (by first | omega | exact hw _ | exact hx _ _ | assumption) (by first | omega | exact hw _ | exact hx _ _ | assumption) (fun h6 => ?_) (fun h6 => ?_)
  · refine j_aload_n d_Dee_remember_70 rfl ?_
    refine gf_D_0_3 f_Dee_15 d_Dee_remember_71 ?_
    refine j_aload_n d_Dee_remember_74 rfl ?_
    refine gf_D_0_0 f_Dee_9 d_Dee_remember_75 ?_
    refine j_iload_n d_Dee_remember_78 rfl ?_
    refine as_D_1 d_Dee_remember_79 (by omega) (by omega) ?_
    refine j_aload_n d_Dee_remember_80 rfl ?_
    refine gf_D_0_4 f_Dee_19 d_Dee_remember_81 ?_
    refine j_aload_n d_Dee_remember_84 rfl ?_
    refine gf_D_0_0 f_Dee_9 d_Dee_remember_85 ?_
    refine j_iload_n d_Dee_remember_88 rfl ?_
    refine as_D_2 d_Dee_remember_89 (by omega) (by omega) ?_
    refine j_aload_n d_Dee_remember_90 rfl ?_
    refine gf_D_0_5 f_Dee_22 d_Dee_remember_91 ?_
    refine j_aload_n d_Dee_remember_94 rfl ?_
    refine gf_D_0_0 f_Dee_9 d_Dee_remember_95 ?_
    refine j_iload_n d_Dee_remember_98 rfl ?_
    refine as_D_3 d_Dee_remember_99 (by omega) (by omega) ?_
    refine j_aload_n d_Dee_remember_100 rfl ?_
    refine j_dup d_Dee_remember_101 rfl ?_
    refine gf_D_0_0 f_Dee_9 d_Dee_remember_102 ?_
    refine z_iconst d_Dee_remember_105 ?_
    refine z_iadd d_Dee_remember_106 ?_
    refine pf_D_0_0 f_Dee_9 d_Dee_remember_107 ?_
    first
    | (have e16 : dz = 16 := by omega
       subst e16
       exact j_return rfl d_Dee_remember_110 hQ)
    | (have e16 : ¬ dz = 16 := by omega
       unfold rmD shU shD at hQ
       simp only [if_neg e16] at hQ
       exact j_return rfl d_Dee_remember_110 hQ)
  · refine j_aload_n d_Dee_remember_9 rfl ?_
    refine j_dup d_Dee_remember_10 rfl ?_
    refine gf_D_0_0 f_Dee_9 d_Dee_remember_11 ?_
    refine z_iconst d_Dee_remember_14 ?_
    refine z_isub d_Dee_remember_15 ?_
    refine pf_D_0_0 f_Dee_9 d_Dee_remember_16 ?_
    refine j_aload_n d_Dee_remember_19 rfl ?_
    refine gf_D_0_3 f_Dee_15 d_Dee_remember_20 ?_
    refine z_iconst d_Dee_remember_23 ?_
    refine j_aload_n d_Dee_remember_24 rfl ?_
    refine gf_D_0_3 f_Dee_15 d_Dee_remember_25 ?_
    refine z_iconst d_Dee_remember_28 ?_
    refine j_aload_n d_Dee_remember_29 rfl ?_
    refine gf_D_0_0 f_Dee_9 d_Dee_remember_30 ?_
    refine z_copyI d_Dee_remember_33 ac_Dee_33 rfl rfl (by omega) (by omega) (by omega) (by omega) (by omega) (by omega) (by omega) (by omega) (Nat.le_of_ble_eq_true rfl) ?_
    show SJ _ _ _ _ _ _ (W_D (dz - 1) lc fo rn rl rp td br (cpy dk dk 1 0 (dz - 1)) dl dg rs rm rd ro tm sk wd lx ts) _ _ _
    refine j_aload_n d_Dee_remember_36 rfl ?_
    refine gf_D_0_4 f_Dee_19 d_Dee_remember_37 ?_
    refine z_iconst d_Dee_remember_40 ?_
    refine j_aload_n d_Dee_remember_41 rfl ?_
    refine gf_D_0_4 f_Dee_19 d_Dee_remember_42 ?_
    refine z_iconst d_Dee_remember_45 ?_
    refine j_aload_n d_Dee_remember_46 rfl ?_
    refine gf_D_0_0 f_Dee_9 d_Dee_remember_47 ?_
    refine z_copyI d_Dee_remember_50 ac_Dee_33 rfl rfl (by omega) (by omega) (by omega) (by omega) (by omega) (by omega) (by omega) (by omega) (Nat.le_of_ble_eq_true rfl) ?_
    show SJ _ _ _ _ _ _ (W_D (dz - 1) lc fo rn rl rp td br (cpy dk dk 1 0 (dz - 1)) (cpy dl dl 1 0 (dz - 1)) dg rs rm rd ro tm sk wd lx ts) _ _ _
    refine j_aload_n d_Dee_remember_53 rfl ?_
    refine gf_D_0_5 f_Dee_22 d_Dee_remember_54 ?_
    refine z_iconst d_Dee_remember_57 ?_
    refine j_aload_n d_Dee_remember_58 rfl ?_
    refine gf_D_0_5 f_Dee_22 d_Dee_remember_59 ?_
    refine z_iconst d_Dee_remember_62 ?_
    refine j_aload_n d_Dee_remember_63 rfl ?_
    refine gf_D_0_0 f_Dee_9 d_Dee_remember_64 ?_
    refine z_copyI d_Dee_remember_67 ac_Dee_33 rfl rfl (by omega) (by omega) (by omega) (by omega) (by omega) (by omega) (by omega) (by omega) (Nat.le_of_ble_eq_true rfl) ?_
    show SJ _ _ _ _ _ _ (W_D (dz - 1) lc fo rn rl rp td br (cpy dk dk 1 0 (dz - 1)) (cpy dl dl 1 0 (dz - 1)) (cpy dg dg 1 0 (dz - 1)) rs rm rd ro tm sk wd lx ts) _ _ _
    refine j_aload_n d_Dee_remember_70 rfl ?_
    refine gf_D_0_3 f_Dee_15 d_Dee_remember_71 ?_
    refine j_aload_n d_Dee_remember_74 rfl ?_
    refine gf_D_0_0 f_Dee_9 d_Dee_remember_75 ?_
    refine j_iload_n d_Dee_remember_78 rfl ?_
    refine as_D_1 d_Dee_remember_79 (by omega) (by omega) ?_
    refine j_aload_n d_Dee_remember_80 rfl ?_
    refine gf_D_0_4 f_Dee_19 d_Dee_remember_81 ?_
    refine j_aload_n d_Dee_remember_84 rfl ?_
    refine gf_D_0_0 f_Dee_9 d_Dee_remember_85 ?_
    refine j_iload_n d_Dee_remember_88 rfl ?_
    refine as_D_2 d_Dee_remember_89 (by omega) (by omega) ?_
    refine j_aload_n d_Dee_remember_90 rfl ?_
    refine gf_D_0_5 f_Dee_22 d_Dee_remember_91 ?_
    refine j_aload_n d_Dee_remember_94 rfl ?_
    refine gf_D_0_0 f_Dee_9 d_Dee_remember_95 ?_
    refine j_iload_n d_Dee_remember_98 rfl ?_
    refine as_D_3 d_Dee_remember_99 (by omega) (by omega) ?_
    refine j_aload_n d_Dee_remember_100 rfl ?_
    refine j_dup d_Dee_remember_101 rfl ?_
    refine gf_D_0_0 f_Dee_9 d_Dee_remember_102 ?_
    refine z_iconst d_Dee_remember_105 ?_
    refine z_iadd d_Dee_remember_106 ?_
    refine pf_D_0_0 f_Dee_9 d_Dee_remember_107 ?_
    first
    | (have e16 : dz = 16 := by omega
       subst e16
       exact j_return rfl d_Dee_remember_110 hQ)
    | (have e16 : ¬ dz = 16 := by omega
       unfold rmD shU shD at hQ
       simp only [if_neg e16] at hQ
       exact j_return rfl d_Dee_remember_110 hQ)
theorem t_Dee_putSign {g : Bool} {d : Nat} {Q : List xM → Option Value → Prop} {dz lc fo rn rl rp td br : Int} {dk dl dg rs rm rd ro tm sk wd : Int → Int} {lx : Nat → Option Nat} {ts : List TD} {K : Int → Int} (hS : SI K lc fo rn rl rp rs rm rd tm) (hX : LX K lx ts) (d0 : 0 ≤ dz) (d1 : dz ≤ 16) (hTL : ∀ s p, 0 ≤ s → s ≤ 11 → 0 ≤ p → p ≤ 20 → 0 ≤ tl K 1 s p 1 ∧ tl K 1 s p 1 ≤ 99) {s p : Int} (r1 : R32 s) (r2 : R32 p) (hno : puR K s p < 0 → ∀ tdz brz skz wdz, Q (W_D dz lc fo rn rl rp tdz brz dk dl dg rs rm rd ro tm skz wdz lx ts) (some (.int (ii (puR K s p))))) (hyes : 0 ≤ puR K s p → (0 ≤ s ∧ s ≤ 11) → (0 ≤ p ∧ p ≤ K 0) → K 0 < 20 → puR K s p = tl K 1 s p 1 → ∀ tdz brz skz wdz, Q (W_D (shU dz + 1) lc fo (rn + 1) rl 0 tdz brz (rmD dk dz 0) (rmD dl dz p) (rmD dg dz s) (up (cpy rs rs p (p + 1) (rn - p)) p s) rm rd ro tm skz wdz lx ts) (some (.int (ii (puR K s p))))) : CT g m_Dee_putSign (d + 4) [.ref 0, .int (ii s), .int (ii p)] (W_D dz lc fo rn rl rp td br dk dl dg rs rm rd ro tm sk wd lx ts) 0 0 Q := by
  refine CT.of (by decide) (Nat.le_of_ble_eq_true rfl) ?_
  show SJ _ _ _ _ [some (.ref 0), some (.int (ii s)), some (.int (ii p)), none, none] [] _ _ _ _
  obtain ⟨hR, hKR, htm0, htm1, htm2, hlc, hfo⟩ := id hS
  obtain ⟨hrn, ⟨hn0, hn1⟩, hrs, hrp, hpu⟩ := id hR
  obtain ⟨⟨kn0, kn1⟩, kns, ⟨kp0, kp1⟩, ⟨kd0, kd1⟩, ⟨km0, km1⟩, ⟨kt0, kt1⟩, ⟨kf0, kf1⟩⟩ := id hKR
  generalize hpr : puR K s p = pr at hno hyes
  unfold puR at hpr
  refine j_iload_n d_Dee_putSign_0 rfl ?_
  refine z_if_lt (t := 10) d_Dee_putSign_1 (by decide) (by first | omega | exact hw _ | exact hx _ _ | assumption) (fun h1 => ?_) (fun h1 => ?_)
  · refine z_iconst d_Dee_putSign_10 ?_
    rw [if_pos (by omega)] at hpr
    subst hpr
    exact z_iret rfl d_Dee_putSign_11 rfl (hno (by decide) _ _ _ _)
  · refine j_iload_n d_Dee_putSign_4 rfl ?_
    refine z_bipush d_Dee_putSign_5 (by decide) ?_
    refine z_icmp_lt (t := 12) d_Dee_putSign_7 (by decide) (by first | omega | exact hw _ | exact hx _ _ | assumption) (by first | omega | exact hw _ | exact hx _ _ | assumption) (fun h7 => ?_) (fun h7 => ?_)
    · refine j_iload_n d_Dee_putSign_12 rfl ?_
      refine z_if_lt (t := 30) d_Dee_putSign_13 (by decide) (by first | omega | exact hw _ | exact hx _ _ | assumption) (fun h13 => ?_) (fun h13 => ?_)
      · refine z_bipush d_Dee_putSign_30 (by decide) ?_
        rw [if_neg (by omega), if_pos (by omega)] at hpr
        subst hpr
        exact z_iret rfl d_Dee_putSign_32 rfl (hno (by decide) _ _ _ _)
      · refine j_iload_n d_Dee_putSign_16 rfl ?_
        refine j_aload_n d_Dee_putSign_17 rfl ?_
        refine gf_D_0_2 f_Dee_25 d_Dee_putSign_18 ?_
        refine gf_D_4_0 f_Dee_39 d_Dee_putSign_21 ?_
        refine gf_D_5_1 f_Dee_45 d_Dee_putSign_24 ?_
        refine z_icmp_le (t := 33) d_Dee_putSign_27 (by decide) (by first | omega | exact hw _ | exact hx _ _ | assumption) (by first | omega | exact hw _ | exact hx _ _ | assumption) (fun h27 => ?_) (fun h27 => ?_)
        · rw [if_neg (by omega), if_neg (by omega)] at hpr
          refine j_aload_n d_Dee_putSign_33 rfl ?_
          refine gf_D_0_2 f_Dee_25 d_Dee_putSign_34 ?_
          refine j_aload_n d_Dee_putSign_37 rfl ?_
          refine gf_D_0_2 f_Dee_25 d_Dee_putSign_38 ?_
          refine gf_D_4_4 f_Dee_50 d_Dee_putSign_41 ?_
          refine v_call1 d_Dee_putSign_44 c_Dee_53 rfl ⟨_, rfl, rfl⟩ (Nat.le_of_ble_eq_true rfl) (t_D_lawOf hS hX (fun lv hLV => ?_))
          refine j_astore_nV d_Dee_putSign_47 (by decide) (LV.or hLV) ?_
          show SJ _ _ _ _ [_, _, _, _, _] _ _ _ _ _
          refine j_aload_n d_Dee_putSign_48 rfl ?_
          refine gf_D_0_1 f_Dee_29 d_Dee_putSign_49 ?_
          refine j_aload_n d_Dee_putSign_52 rfl ?_
          refine gf_D_0_2 f_Dee_25 d_Dee_putSign_53 ?_
          refine j_aload_nV d_Dee_putSign_56 rfl (LV.or hLV) ?_
          refine j_iload_n d_Dee_putSign_57 rfl ?_
          refine j_iload_n d_Dee_putSign_58 rfl ?_
          refine v_call4 d_Dee_putSign_59 c_Dee_57 rfl ⟨_, rfl, rfl⟩ (Nat.le_of_ble_eq_true rfl) (t_D_isBarred hrn htm0 htm2 hLV (by omega) (by omega) (by omega) (by omega) (fun h59 tdz brz skz wdz => ?_) (fun h59 tdz brz skz wdz => ?_))
          · refine z_if_eq (t := 68) d_Dee_putSign_62 (by decide) (by first | omega | exact hw _ | exact hx _ _ | assumption) (fun h => absurd h (by decide)) (fun _ => ?_)
            refine z_bipush d_Dee_putSign_65 (by decide) ?_
            rw [if_pos h59] at hpr
            subst hpr
            exact z_iret rfl d_Dee_putSign_67 rfl (hno (by decide) _ _ _ _)
          · refine z_if_eq (t := 68) d_Dee_putSign_62 (by decide) (by first | omega | exact hw _ | exact hx _ _ | assumption) (fun _ => ?_) (fun h => absurd h (by decide))
            rw [if_neg h59] at hpr
            refine j_aload_n d_Dee_putSign_68 rfl ?_
            refine gf_D_0_2 f_Dee_25 d_Dee_putSign_69 ?_
            refine gf_D_4_0 f_Dee_39 d_Dee_putSign_72 ?_
            refine gf_D_5_1 f_Dee_45 d_Dee_putSign_75 ?_
            refine z_bipush d_Dee_putSign_78 (by decide) ?_
            refine z_icmp_lt (t := 86) d_Dee_putSign_80 (by decide) (by first | omega | exact hw _ | exact hx _ _ | assumption) (by first | omega | exact hw _ | exact hx _ _ | assumption) (fun h80 => ?_) (fun h80 => ?_)
            · rw [if_neg (by omega)] at hpr
              have hta := hTL s p (by omega) (by omega) (by omega) (by omega)
              refine j_aload_n d_Dee_putSign_86 rfl ?_
              refine gf_D_0_1 f_Dee_29 d_Dee_putSign_87 ?_
              refine j_aload_n d_Dee_putSign_90 rfl ?_
              refine gf_D_0_2 f_Dee_25 d_Dee_putSign_91 ?_
              refine j_aload_nV d_Dee_putSign_94 rfl (LV.or hLV) ?_
              refine z_iconst d_Dee_putSign_95 ?_
              refine j_iload_n d_Dee_putSign_96 rfl ?_
              refine j_iload_n d_Dee_putSign_97 rfl ?_
              refine v_call5 d_Dee_putSign_98 c_Dee_63 rfl ⟨_, rfl, rfl⟩ (Nat.le_of_ble_eq_true rfl) (t_D_amount hrn htm0 htm2 hLV (by omega) (by omega) (by omega) (by omega) (by omega) (by omega) (fun td2 br2 sk2 wd2 => ?_))
              refine j_istore d_Dee_putSign_101 (by decide) ?_
              rw [x_s1_V (i := 4) rfl (LV.cat hLV)]
              show SJ _ _ _ _ [_, _, _, _, _] _ _ _ _ _
              refine j_aload_n d_Dee_putSign_103 rfl ?_
              refine gf_D_0_2 f_Dee_25 d_Dee_putSign_104 ?_
              refine gf_D_4_0 f_Dee_39 d_Dee_putSign_107 ?_
              refine j_iload_n d_Dee_putSign_110 rfl ?_
              refine j_iload_n d_Dee_putSign_111 rfl ?_
              refine v_call2 d_Dee_putSign_112 c_Dee_67 rfl ⟨_, rfl, rfl⟩ (Nat.le_of_ble_eq_true rfl) (E_D_Row (fun Q2 kz => t_Row_insert (by omega) (by omega) (by omega) (fun h112 => kz _ _ _ _ _ _ _ _ rfl ?_) (fun h112 => kz _ _ _ _ _ _ _ _ rfl (by exfalso; omega))) rfl)
              refine j_aload_n d_Dee_putSign_115 rfl ?_
              refine z_iconst d_Dee_putSign_116 ?_
              refine j_iload_n d_Dee_putSign_117 rfl ?_
              refine j_iload_n d_Dee_putSign_118 rfl ?_
              refine v_call3 d_Dee_putSign_119 c_Dee_71 rfl ⟨_, rfl, rfl⟩ (Nat.le_of_ble_eq_true rfl) (t_Dee_remember d0 d1 ?_)
              refine j_iload d_Dee_putSign_122 rfl ?_
              exact z_iret rfl d_Dee_putSign_124 hpr (hyes (by rw [← hpr]; exact hta.1) (by omega) (by omega) (by omega) hpr.symm _ _ _ _)
            · refine z_bipush d_Dee_putSign_83 (by decide) ?_
              rw [if_pos (by omega)] at hpr
              subst hpr
              exact z_iret rfl d_Dee_putSign_85 rfl (hno (by decide) _ _ _ _)
        · refine z_bipush d_Dee_putSign_30 (by decide) ?_
          rw [if_neg (by omega), if_pos (by omega)] at hpr
          subst hpr
          exact z_iret rfl d_Dee_putSign_32 rfl (hno (by decide) _ _ _ _)
    · refine z_iconst d_Dee_putSign_10 ?_
      rw [if_pos (by omega)] at hpr
      subst hpr
      exact z_iret rfl d_Dee_putSign_11 rfl (hno (by decide) _ _ _ _)
theorem t_Dee_cutSign {g : Bool} {d : Nat} {Q : List xM → Option Value → Prop} {dz lc fo rn rl rp td br : Int} {dk dl dg rs rm rd ro tm sk wd : Int → Int} {lx : Nat → Option Nat} {ts : List TD} {K : Int → Int} (hS : SI K lc fo rn rl rp rs rm rd tm) (hX : LX K lx ts) (d0 : 0 ≤ dz) (d1 : dz ≤ 16) (hTL : ∀ s p, 0 ≤ s → s ≤ 11 → 0 ≤ p → p ≤ 20 → 0 ≤ tl K 2 s p 1 ∧ tl K 2 s p 1 ≤ 99) {p : Int} (r2 : R32 p) (hno : cuR K p < 0 → ∀ tdz brz skz wdz, Q (W_D dz lc fo rn rl rp tdz brz dk dl dg rs rm rd ro tm skz wdz lx ts) (some (.int (ii (cuR K p))))) (hyes : 0 ≤ cuR K p → (0 ≤ p ∧ p < K 0) → ∀ tdz brz skz wdz, Q (W_D (shU dz + 1) lc fo (rn - 1) rl 0 tdz brz (rmD dk dz 1) (rmD dl dz p) (rmD dg dz (rs p)) (cpy rs rs (p + 1) p (rn - p - 1)) rm rd ro tm skz wdz lx ts) (some (.int (ii (cuR K p))))) : CT g m_Dee_cutSign (d + 4) [.ref 0, .int (ii p)] (W_D dz lc fo rn rl rp td br dk dl dg rs rm rd ro tm sk wd lx ts) 0 0 Q := by
  refine CT.of (by decide) (Nat.le_of_ble_eq_true rfl) ?_
  show SJ _ _ _ _ [some (.ref 0), some (.int (ii p)), none, none] [] _ _ _ _
  obtain ⟨hR, hKR, htm0, htm1, htm2, hlc, hfo⟩ := id hS
  obtain ⟨hrn, ⟨hn0, hn1⟩, hrs, hrp, hpu⟩ := id hR
  obtain ⟨⟨kn0, kn1⟩, kns, ⟨kp0, kp1⟩, ⟨kd0, kd1⟩, ⟨km0, km1⟩, ⟨kt0, kt1⟩, ⟨kf0, kf1⟩⟩ := id hKR
  generalize hpr : cuR K p = pr at hno hyes
  unfold cuR at hpr
  refine j_aload_n d_Dee_cutSign_0 rfl ?_
  refine gf_D_0_2 f_Dee_25 d_Dee_cutSign_1 ?_
  refine gf_D_4_0 f_Dee_39 d_Dee_cutSign_4 ?_
  refine j_iload_n d_Dee_cutSign_7 rfl ?_
  refine v_call1 d_Dee_cutSign_8 c_Dee_75 rfl ⟨_, rfl, rfl⟩ (Nat.le_of_ble_eq_true rfl) (E_D_Row (fun Q2 kz => t_Row_has (by omega) (by omega) (fun h8 => kz _ _ _ _ _ _ _ _ rfl ?_) (fun h8 => kz _ _ _ _ _ _ _ _ rfl ?_)) rfl)
  · refine z_if_ne (t := 17) d_Dee_cutSign_11 (by decide) (by first | omega | exact hw _ | exact hx _ _ | assumption) (fun _ => ?_) (fun h => absurd h (by decide))
    rw [if_neg (by omega)] at hpr
    have hsp := hrs p (by omega) (by omega)
    have hta := hTL (K (1 + p)) p (by omega) (by omega) (by omega) (by omega)
    refine j_aload_n d_Dee_cutSign_17 rfl ?_
    refine gf_D_0_2 f_Dee_25 d_Dee_cutSign_18 ?_
    refine gf_D_4_0 f_Dee_39 d_Dee_cutSign_21 ?_
    refine gf_D_5_0 f_Dee_79 d_Dee_cutSign_24 ?_
    refine j_iload_n d_Dee_cutSign_27 rfl ?_
    refine al_D_6 d_Dee_cutSign_28 (by omega) (by omega) ?_
    refine j_istore_n d_Dee_cutSign_29 (by decide) ?_
    show SJ _ _ _ _ [_, _, _, _] _ _ _ _ _
    refine j_aload_n d_Dee_cutSign_30 rfl ?_
    refine gf_D_0_1 f_Dee_29 d_Dee_cutSign_31 ?_
    refine j_aload_n d_Dee_cutSign_34 rfl ?_
    refine gf_D_0_2 f_Dee_25 d_Dee_cutSign_35 ?_
    refine j_aload_n d_Dee_cutSign_38 rfl ?_
    refine gf_D_0_2 f_Dee_25 d_Dee_cutSign_39 ?_
    refine j_aload_n d_Dee_cutSign_42 rfl ?_
    refine gf_D_0_2 f_Dee_25 d_Dee_cutSign_43 ?_
    refine gf_D_4_4 f_Dee_50 d_Dee_cutSign_46 ?_
    refine v_call1 d_Dee_cutSign_49 c_Dee_53 rfl ⟨_, rfl, rfl⟩ (Nat.le_of_ble_eq_true rfl) (t_D_lawOf hS hX (fun lv hLV => ?_))
    refine z_iconst d_Dee_cutSign_52 ?_
    refine j_iload_n d_Dee_cutSign_53 rfl ?_
    refine j_iload_n d_Dee_cutSign_54 rfl ?_
    refine v_call5 d_Dee_cutSign_55 c_Dee_63 rfl ⟨_, rfl, rfl⟩ (Nat.le_of_ble_eq_true rfl) (t_D_amount hrn htm0 htm2 hLV (by omega) (by omega) (by omega) (by omega) (by omega) (by omega) (fun td2 br2 sk2 wd2 => ?_))
    refine j_istore_n d_Dee_cutSign_58 (by decide) ?_
    show SJ _ _ _ _ [_, _, _, _] _ _ _ _ _
    refine j_aload_n d_Dee_cutSign_59 rfl ?_
    refine gf_D_0_2 f_Dee_25 d_Dee_cutSign_60 ?_
    refine gf_D_4_0 f_Dee_39 d_Dee_cutSign_63 ?_
    refine j_iload_n d_Dee_cutSign_66 rfl ?_
    refine v_call1 d_Dee_cutSign_67 c_Dee_80 rfl ⟨_, rfl, rfl⟩ (Nat.le_of_ble_eq_true rfl) (E_D_Row (fun Q2 kz => t_Row_remove (by omega) (by omega) (by omega) (fun h67 => kz _ _ _ _ _ _ _ _ rfl ?_) (fun h67 => kz _ _ _ _ _ _ _ _ rfl (by exfalso; omega))) rfl)
    refine j_aload_n d_Dee_cutSign_70 rfl ?_
    refine z_iconst d_Dee_cutSign_71 ?_
    refine j_iload_n d_Dee_cutSign_72 rfl ?_
    refine j_iload_n d_Dee_cutSign_73 rfl ?_
    refine v_call3 d_Dee_cutSign_74 c_Dee_71 rfl ⟨_, rfl, rfl⟩ (Nat.le_of_ble_eq_true rfl) (t_Dee_remember d0 d1 ?_)
    refine j_iload_n d_Dee_cutSign_77 rfl ?_
    exact z_iret rfl d_Dee_cutSign_78 (by rw [← hpr, hsp.1]; rfl) (hyes (by rw [← hpr]; exact hta.1) (by omega) _ _ _ _)
  · refine z_if_ne (t := 17) d_Dee_cutSign_11 (by decide) (by first | omega | exact hw _ | exact hx _ _ | assumption) (fun h => absurd h (by decide)) (fun _ => ?_)
    refine z_bipush d_Dee_cutSign_14 (by decide) ?_
    rw [if_pos (by omega)] at hpr
    subst hpr
    exact z_iret rfl d_Dee_cutSign_16 rfl (hno (by decide) _ _ _ _)
theorem t_Dee_turnSign {g : Bool} {d : Nat} {Q : List xM → Option Value → Prop} {dz lc fo rn rl rp td br : Int} {dk dl dg rs rm rd ro tm sk wd : Int → Int} {lx : Nat → Option Nat} {ts : List TD} {K : Int → Int} (hS : SI K lc fo rn rl rp rs rm rd tm) (hX : LX K lx ts) (d0 : 0 ≤ dz) (d1 : dz ≤ 16) {p s : Int} (r1 : R32 s) (r2 : R32 p) (hno : tuR K p s < 0 → ∀ tdz brz skz wdz, Q (W_D dz lc fo rn rl rp tdz brz dk dl dg rs rm rd ro tm skz wdz lx ts) (some (.int (ii (tuR K p s))))) (hyes : 0 ≤ tuR K p s → (0 ≤ s ∧ s ≤ 11) → (0 ≤ p ∧ p < K 0) → ∀ tdz brz skz wdz, Q (W_D (shU dz + 1) lc fo rn rl 0 tdz brz (rmD dk dz 2) (rmD dl dz p) (rmD dg dz (rs p)) (up rs p s) rm rd ro tm skz wdz lx ts) (some (.int (ii (tuR K p s))))) : CT g m_Dee_turnSign (d + 4) [.ref 0, .int (ii p), .int (ii s)] (W_D dz lc fo rn rl rp td br dk dl dg rs rm rd ro tm sk wd lx ts) 0 0 Q := by
  refine CT.of (by decide) (Nat.le_of_ble_eq_true rfl) ?_
  show SJ _ _ _ _ [some (.ref 0), some (.int (ii p)), some (.int (ii s)), none] [] _ _ _ _
  obtain ⟨hR, hKR, htm0, htm1, htm2, hlc, hfo⟩ := id hS
  obtain ⟨hrn, ⟨hn0, hn1⟩, hrs, hrp, hpu⟩ := id hR
  obtain ⟨⟨kn0, kn1⟩, kns, ⟨kp0, kp1⟩, ⟨kd0, kd1⟩, ⟨km0, km1⟩, ⟨kt0, kt1⟩, ⟨kf0, kf1⟩⟩ := id hKR
  generalize hpr : tuR K p s = pr at hno hyes
  unfold tuR at hpr
  refine j_iload_n d_Dee_turnSign_0 rfl ?_
  refine z_if_lt (t := 10) d_Dee_turnSign_1 (by decide) (by first | omega | exact hw _ | exact hx _ _ | assumption) (fun h1 => ?_) (fun h1 => ?_)
  · refine z_iconst d_Dee_turnSign_10 ?_
    rw [if_pos (by omega)] at hpr
    subst hpr
    exact z_iret rfl d_Dee_turnSign_11 rfl (hno (by decide) _ _ _ _)
  · refine j_iload_n d_Dee_turnSign_4 rfl ?_
    refine z_bipush d_Dee_turnSign_5 (by decide) ?_
    refine z_icmp_lt (t := 12) d_Dee_turnSign_7 (by decide) (by first | omega | exact hw _ | exact hx _ _ | assumption) (by first | omega | exact hw _ | exact hx _ _ | assumption) (fun h7 => ?_) (fun h7 => ?_)
    · refine j_aload_n d_Dee_turnSign_12 rfl ?_
      refine gf_D_0_2 f_Dee_25 d_Dee_turnSign_13 ?_
      refine gf_D_4_0 f_Dee_39 d_Dee_turnSign_16 ?_
      refine j_iload_n d_Dee_turnSign_19 rfl ?_
      refine v_call1 d_Dee_turnSign_20 c_Dee_75 rfl ⟨_, rfl, rfl⟩ (Nat.le_of_ble_eq_true rfl) (E_D_Row (fun Q2 kz => t_Row_has (by omega) (by omega) (fun h20 => kz _ _ _ _ _ _ _ _ rfl ?_) (fun h20 => kz _ _ _ _ _ _ _ _ rfl ?_)) rfl)
      · refine z_if_ne (t := 29) d_Dee_turnSign_23 (by decide) (by first | omega | exact hw _ | exact hx _ _ | assumption) (fun _ => ?_) (fun h => absurd h (by decide))
        rw [if_neg (by omega), if_neg (by omega)] at hpr
        have hsp := hrs p (by omega) (by omega)
        refine j_aload_n d_Dee_turnSign_29 rfl ?_
        refine gf_D_0_2 f_Dee_25 d_Dee_turnSign_30 ?_
        refine gf_D_4_0 f_Dee_39 d_Dee_turnSign_33 ?_
        refine gf_D_5_0 f_Dee_79 d_Dee_turnSign_36 ?_
        refine j_iload_n d_Dee_turnSign_39 rfl ?_
        refine al_D_6 d_Dee_turnSign_40 (by omega) (by omega) ?_
        refine j_istore_n d_Dee_turnSign_41 (by decide) ?_
        show SJ _ _ _ _ [_, _, _, _] _ _ _ _ _
        refine j_iload_n d_Dee_turnSign_42 rfl ?_
        refine j_iload_n d_Dee_turnSign_43 rfl ?_
        refine z_icmp_eq (t := 77) d_Dee_turnSign_44 (by decide) (by first | omega | exact hw _ | exact hx _ _ | assumption) (by first | omega | exact hw _ | exact hx _ _ | assumption) (fun h44 => ?_) (fun h44 => ?_)
        · refine z_bipush d_Dee_turnSign_77 (by decide) ?_
          first
          | (rw [if_pos (Or.inr h71)] at hpr
             subst hpr
             exact z_iret rfl d_Dee_turnSign_79 rfl (hno (by decide) _ _ _ _))
          | (rw [if_pos (Or.inl (by omega))] at hpr
             subst hpr
             exact z_iret rfl d_Dee_turnSign_79 rfl (hno (by decide) _ _ _ _))
        · refine j_aload_n d_Dee_turnSign_47 rfl ?_
          refine gf_D_0_1 f_Dee_29 d_Dee_turnSign_48 ?_
          refine j_aload_n d_Dee_turnSign_51 rfl ?_
          refine gf_D_0_2 f_Dee_25 d_Dee_turnSign_52 ?_
          refine j_aload_n d_Dee_turnSign_55 rfl ?_
          refine gf_D_0_2 f_Dee_25 d_Dee_turnSign_56 ?_
          refine j_aload_n d_Dee_turnSign_59 rfl ?_
          refine gf_D_0_2 f_Dee_25 d_Dee_turnSign_60 ?_
          refine gf_D_4_4 f_Dee_50 d_Dee_turnSign_63 ?_
          refine v_call1 d_Dee_turnSign_66 c_Dee_53 rfl ⟨_, rfl, rfl⟩ (Nat.le_of_ble_eq_true rfl) (t_D_lawOf hS hX (fun lv hLV => ?_))
          refine j_iload_n d_Dee_turnSign_69 rfl ?_
          refine j_iload_n d_Dee_turnSign_70 rfl ?_
          refine v_call4 d_Dee_turnSign_71 c_Dee_57 rfl ⟨_, rfl, rfl⟩ (Nat.le_of_ble_eq_true rfl) (t_D_isBarred hrn htm0 htm2 hLV (by omega) (by omega) (by omega) (by omega) (fun h71 tdz brz skz wdz => ?_) (fun h71 tdz brz skz wdz => ?_))
          · refine z_if_eq (t := 80) d_Dee_turnSign_74 (by decide) (by first | omega | exact hw _ | exact hx _ _ | assumption) (fun h => absurd h (by decide)) (fun _ => ?_)
            refine z_bipush d_Dee_turnSign_77 (by decide) ?_
            first
            | (rw [if_pos (Or.inr h71)] at hpr
               subst hpr
               exact z_iret rfl d_Dee_turnSign_79 rfl (hno (by decide) _ _ _ _))
            | (rw [if_pos (Or.inl (by omega))] at hpr
               subst hpr
               exact z_iret rfl d_Dee_turnSign_79 rfl (hno (by decide) _ _ _ _))
          · refine z_if_eq (t := 80) d_Dee_turnSign_74 (by decide) (by first | omega | exact hw _ | exact hx _ _ | assumption) (fun _ => ?_) (fun h => absurd h (by decide))
            rw [if_neg (fun q => by rcases q with q | q; omega; exact h71 q)] at hpr
            refine j_aload_n d_Dee_turnSign_80 rfl ?_
            refine gf_D_0_2 f_Dee_25 d_Dee_turnSign_81 ?_
            refine gf_D_4_0 f_Dee_39 d_Dee_turnSign_84 ?_
            refine j_iload_n d_Dee_turnSign_87 rfl ?_
            refine j_iload_n d_Dee_turnSign_88 rfl ?_
            refine v_call2 d_Dee_turnSign_89 c_Dee_84 rfl ⟨_, rfl, rfl⟩ (Nat.le_of_ble_eq_true rfl) (E_D_Row (fun Q2 kz => t_Row_replace (by omega) (by omega) (by omega) (fun h89 => kz _ _ _ _ _ _ _ _ rfl ?_) (fun h89 => kz _ _ _ _ _ _ _ _ rfl (by exfalso; omega))) rfl)
            refine j_aload_n d_Dee_turnSign_92 rfl ?_
            refine z_iconst d_Dee_turnSign_93 ?_
            refine j_iload_n d_Dee_turnSign_94 rfl ?_
            refine j_iload_n d_Dee_turnSign_95 rfl ?_
            refine v_call3 d_Dee_turnSign_96 c_Dee_71 rfl ⟨_, rfl, rfl⟩ (Nat.le_of_ble_eq_true rfl) (t_Dee_remember d0 d1 ?_)
            refine j_iload_n d_Dee_turnSign_99 rfl ?_
            exact z_iret rfl d_Dee_turnSign_100 (by rw [← hpr, hsp.1]) (hyes (by omega) (by omega) (by omega) _ _ _ _)
      · refine z_if_ne (t := 29) d_Dee_turnSign_23 (by decide) (by first | omega | exact hw _ | exact hx _ _ | assumption) (fun h => absurd h (by decide)) (fun _ => ?_)
        refine z_bipush d_Dee_turnSign_26 (by decide) ?_
        rw [if_neg (by omega), if_pos (by omega)] at hpr
        subst hpr
        exact z_iret rfl d_Dee_turnSign_28 rfl (hno (by decide) _ _ _ _)
    · refine z_iconst d_Dee_turnSign_10 ?_
      rw [if_pos (by omega)] at hpr
      subst hpr
      exact z_iret rfl d_Dee_turnSign_11 rfl (hno (by decide) _ _ _ _)
theorem t_Dee_passPage {g : Bool} {d : Nat} {Q : List xM → Option Value → Prop} {dz lc fo rn rl rp td br : Int} {dk dl dg rs rm rd ro tm sk wd : Int → Int} {lx : Nat → Option Nat} {ts : List TD} {K : Int → Int} (hS : SI K lc fo rn rl rp rs rm rd tm) (d0 : 0 ≤ dz) (d1 : dz ≤ 16) (hno : K 21 = 999 → Q (W_D dz lc fo rn rl rp td br dk dl dg rs rm rd ro tm sk wd lx ts) (some (.int (ii (-3))))) (hyes : K 21 < 999 → Q (W_D (shU dz + 1) lc fo rn rl rp td br (rmD dk dz 3) (rmD dl dz 0) (rmD dg dz 0) rs rm rd ro (up tm 0 (tm 0 + 1)) sk wd lx ts) (some (.int (ii (K 21 + 1))))) : CT g m_Dee_passPage (d + 2) [.ref 0] (W_D dz lc fo rn rl rp td br dk dl dg rs rm rd ro tm sk wd lx ts) 0 0 Q := by
  refine CT.of (by decide) (Nat.le_of_ble_eq_true rfl) ?_
  show SJ _ _ _ _ [some (.ref 0)] [] _ _ _ _
  obtain ⟨hR, hKR, htm0, htm1, htm2, hlc, hfo⟩ := id hS
  obtain ⟨hrn, ⟨hn0, hn1⟩, hrs, hrp, hpu⟩ := id hR
  obtain ⟨⟨kn0, kn1⟩, kns, ⟨kp0, kp1⟩, ⟨kd0, kd1⟩, ⟨km0, km1⟩, ⟨kt0, kt1⟩, ⟨kf0, kf1⟩⟩ := id hKR
  refine j_aload_n d_Dee_passPage_0 rfl ?_
  refine gf_D_0_2 f_Dee_25 d_Dee_passPage_1 ?_
  refine gf_D_4_1 f_Dee_87 d_Dee_passPage_4 ?_
  refine z_iconst d_Dee_passPage_7 ?_
  refine al_D_10 d_Dee_passPage_8 (by omega) (by omega) ?_
  refine z_sipush d_Dee_passPage_9 (by decide) ?_
  refine z_icmp_lt (t := 18) d_Dee_passPage_12 (by decide) (by first | omega | exact hw _ | exact hx _ _ | assumption) (by first | omega | exact hw _ | exact hx _ _ | assumption) (fun h12 => ?_) (fun h12 => ?_)
  · refine j_aload_n d_Dee_passPage_18 rfl ?_
    refine gf_D_0_2 f_Dee_25 d_Dee_passPage_19 ?_
    refine gf_D_4_1 f_Dee_87 d_Dee_passPage_22 ?_
    refine z_iconst d_Dee_passPage_25 ?_
    refine j_dup2 d_Dee_passPage_26 rfl rfl ?_
    refine al_D_10 d_Dee_passPage_27 (by omega) (by omega) ?_
    refine z_iconst d_Dee_passPage_28 ?_
    refine z_iadd d_Dee_passPage_29 ?_
    refine as_D_10 d_Dee_passPage_30 (by omega) (by omega) ?_
    refine j_aload_n d_Dee_passPage_31 rfl ?_
    refine z_iconst d_Dee_passPage_32 ?_
    refine z_iconst d_Dee_passPage_33 ?_
    refine z_iconst d_Dee_passPage_34 ?_
    refine v_call3 d_Dee_passPage_35 c_Dee_71 rfl ⟨_, rfl, rfl⟩ (Nat.le_of_ble_eq_true rfl) (t_Dee_remember d0 d1 ?_)
    refine j_aload_n d_Dee_passPage_38 rfl ?_
    refine gf_D_0_2 f_Dee_25 d_Dee_passPage_39 ?_
    refine gf_D_4_1 f_Dee_87 d_Dee_passPage_42 ?_
    refine z_iconst d_Dee_passPage_45 ?_
    refine al_D_10 d_Dee_passPage_46 (by omega) (by omega) ?_
    exact z_iret rfl d_Dee_passPage_47 (by rw [up_eq, htm0]) (hyes (by omega))
  · refine z_bipush d_Dee_passPage_15 (by decide) ?_
    exact z_iret rfl d_Dee_passPage_17 rfl (hno (by omega))
theorem t_Dee_undoLatest {g : Bool} {d : Nat} {Q : List xM → Option Value → Prop} {dz lc fo rn rl rp td br : Int} {dk dl dg rs rm rd ro tm sk wd : Int → Int} {lx : Nat → Option Nat} {ts : List TD} (n0_ : 0 ≤ rn) (n1_ : rn ≤ 20) (hdl : ∀ j, 0 ≤ j → j < 16 → R32 (dl j)) (hdk : ∀ j, 0 ≤ j → j < dz → 0 ≤ dk j ∧ dk j ≤ 3) (d0 : 0 ≤ dz) (d1 : dz ≤ 16) (hno : dz = 0 → Q (W_D dz lc fo rn rl rp td br dk dl dg rs rm rd ro tm sk wd lx ts) (some (.int (ii (-3))))) (h0_ : 1 ≤ dz → (dk (dz - 1)) = 0 → (0 ≤ dl (dz - 1) ∧ dl (dz - 1) < rn) → Q (W_D (dz - 1) lc fo (rn - 1) rl 0 td br dk dl dg (cpy rs rs (dl (dz - 1) + 1) (dl (dz - 1)) (rn - dl (dz - 1) - 1)) rm rd ro tm sk wd lx ts) (some (.int (ii 0)))) (h1_ : 1 ≤ dz → (dk (dz - 1)) = 1 → (rn < 20 ∧ 0 ≤ dl (dz - 1) ∧ dl (dz - 1) ≤ rn) → Q (W_D (dz - 1) lc fo (rn + 1) rl 0 td br dk dl dg (up (cpy rs rs (dl (dz - 1)) (dl (dz - 1) + 1) (rn - dl (dz - 1))) (dl (dz - 1)) (dg (dz - 1))) rm rd ro tm sk wd lx ts) (some (.int (ii 1)))) (h2_ : 1 ≤ dz → (dk (dz - 1)) = 2 → (0 ≤ dl (dz - 1) ∧ dl (dz - 1) < rn) → Q (W_D (dz - 1) lc fo rn rl 0 td br dk dl dg (up rs (dl (dz - 1)) (dg (dz - 1))) rm rd ro tm sk wd lx ts) (some (.int (ii 2)))) (h3_ : 1 ≤ dz → (dk (dz - 1)) = 3 → Q (W_D (dz - 1) lc fo rn rl rp td br dk dl dg rs rm rd ro (up tm 0 (tm 0 - 1)) sk wd lx ts) (some (.int (ii 3)))) (hok : 1 ≤ dz → ((dk (dz - 1)) = 0 → 0 ≤ dl (dz - 1) ∧ dl (dz - 1) < rn) ∧ ((dk (dz - 1)) = 1 → rn < 20 ∧ 0 ≤ dl (dz - 1) ∧ dl (dz - 1) ≤ rn) ∧ ((dk (dz - 1)) = 2 → 0 ≤ dl (dz - 1) ∧ dl (dz - 1) < rn)) : CT g m_Dee_undoLatest (d + 2) [.ref 0] (W_D dz lc fo rn rl rp td br dk dl dg rs rm rd ro tm sk wd lx ts) 0 0 Q := by
  refine CT.of (by decide) (Nat.le_of_ble_eq_true rfl) ?_
  show SJ _ _ _ _ [some (.ref 0)] [] _ _ _ _
  refine j_aload_n d_Dee_undoLatest_0 rfl ?_
  refine gf_D_0_0 f_Dee_9 d_Dee_undoLatest_1 ?_
  refine z_if_ne (t := 10) d_Dee_undoLatest_4 (by decide) (by first | omega | exact hw _ | exact hx _ _ | assumption) (fun h4 => ?_) (fun h4 => ?_)
  · have hk1 := hdk (dz - 1) (by omega) (by omega)
    have hl1 := hdl (dz - 1) (by omega) (by omega)
    have hok1 := hok (by omega)
    clear hok
    refine j_aload_n d_Dee_undoLatest_10 rfl ?_
    refine j_dup d_Dee_undoLatest_11 rfl ?_
    refine gf_D_0_0 f_Dee_9 d_Dee_undoLatest_12 ?_
    refine z_iconst d_Dee_undoLatest_15 ?_
    refine z_isub d_Dee_undoLatest_16 ?_
    refine pf_D_0_0 f_Dee_9 d_Dee_undoLatest_17 ?_
    refine j_aload_n d_Dee_undoLatest_20 rfl ?_
    refine gf_D_0_3 f_Dee_15 d_Dee_undoLatest_21 ?_
    refine j_aload_n d_Dee_undoLatest_24 rfl ?_
    refine gf_D_0_0 f_Dee_9 d_Dee_undoLatest_25 ?_
    refine al_D_1 d_Dee_undoLatest_28 (by omega) (by omega) ?_
    refine z_case (0) (fun h29_0 => ?_) (fun h29_0 => ?_)
    · refine z_tabIn (t := 56) (o := 27) d_Dee_undoLatest_29 (by first | omega | exact hw _ | exact hx _ _ | assumption) (by omega) (by omega) (by rw [h29_0]; rfl) (by decide) ?_
      refine j_aload_n d_Dee_undoLatest_56 rfl ?_
      refine gf_D_0_2 f_Dee_25 d_Dee_undoLatest_57 ?_
      refine gf_D_4_0 f_Dee_39 d_Dee_undoLatest_60 ?_
      refine j_aload_n d_Dee_undoLatest_63 rfl ?_
      refine gf_D_0_4 f_Dee_19 d_Dee_undoLatest_64 ?_
      refine j_aload_n d_Dee_undoLatest_67 rfl ?_
      refine gf_D_0_0 f_Dee_9 d_Dee_undoLatest_68 ?_
      refine al_D_2 d_Dee_undoLatest_71 (by omega) (by omega) ?_
      refine v_call1 d_Dee_undoLatest_72 c_Dee_80 rfl ⟨_, rfl, rfl⟩ (Nat.le_of_ble_eq_true rfl) (E_D_Row (fun Q2 kz => t_Row_remove (by omega) (by omega) (by omega) (fun h72 => kz _ _ _ _ _ _ _ _ rfl ?_) (fun h72 => kz _ _ _ _ _ _ _ _ rfl (by exfalso; exact h72 (hok1.1 (by omega))))) rfl)
      refine j_goto (t := 153) d_Dee_undoLatest_75 (by decide) ?_
      refine j_aload_n d_Dee_undoLatest_153 rfl ?_
      refine gf_D_0_3 f_Dee_15 d_Dee_undoLatest_154 ?_
      refine j_aload_n d_Dee_undoLatest_157 rfl ?_
      refine gf_D_0_0 f_Dee_9 d_Dee_undoLatest_158 ?_
      refine al_D_1 d_Dee_undoLatest_161 (by omega) (by omega) ?_
      first
      | exact z_iret rfl d_Dee_undoLatest_162 (by omega) (h0_ (by omega) (by omega) h72)
      | exact z_iret rfl d_Dee_undoLatest_162 (by omega) (h1_ (by omega) (by omega) h72)
      | exact z_iret rfl d_Dee_undoLatest_162 (by omega) (h2_ (by omega) (by omega) h72)
      | exact z_iret rfl d_Dee_undoLatest_162 (by omega) (h3_ (by omega) (by omega))
    refine z_case (1) (fun h29_1 => ?_) (fun h29_1 => ?_)
    · refine z_tabIn (t := 78) (o := 49) d_Dee_undoLatest_29 (by first | omega | exact hw _ | exact hx _ _ | assumption) (by omega) (by omega) (by rw [h29_1]; rfl) (by decide) ?_
      refine j_aload_n d_Dee_undoLatest_78 rfl ?_
      refine gf_D_0_2 f_Dee_25 d_Dee_undoLatest_79 ?_
      refine gf_D_4_0 f_Dee_39 d_Dee_undoLatest_82 ?_
      refine j_aload_n d_Dee_undoLatest_85 rfl ?_
      refine gf_D_0_5 f_Dee_22 d_Dee_undoLatest_86 ?_
      refine j_aload_n d_Dee_undoLatest_89 rfl ?_
      refine gf_D_0_0 f_Dee_9 d_Dee_undoLatest_90 ?_
      refine al_D_3 d_Dee_undoLatest_93 (by omega) (by omega) ?_
      refine j_aload_n d_Dee_undoLatest_94 rfl ?_
      refine gf_D_0_4 f_Dee_19 d_Dee_undoLatest_95 ?_
      refine j_aload_n d_Dee_undoLatest_98 rfl ?_
      refine gf_D_0_0 f_Dee_9 d_Dee_undoLatest_99 ?_
      refine al_D_2 d_Dee_undoLatest_102 (by omega) (by omega) ?_
      refine v_call2 d_Dee_undoLatest_103 c_Dee_67 rfl ⟨_, rfl, rfl⟩ (Nat.le_of_ble_eq_true rfl) (E_D_Row (fun Q2 kz => t_Row_insert (by omega) (by omega) (by omega) (fun h72 => kz _ _ _ _ _ _ _ _ rfl ?_) (fun h72 => kz _ _ _ _ _ _ _ _ rfl (by exfalso; exact h72 (hok1.2.1 (by omega))))) rfl)
      refine j_goto (t := 153) d_Dee_undoLatest_106 (by decide) ?_
      refine j_aload_n d_Dee_undoLatest_153 rfl ?_
      refine gf_D_0_3 f_Dee_15 d_Dee_undoLatest_154 ?_
      refine j_aload_n d_Dee_undoLatest_157 rfl ?_
      refine gf_D_0_0 f_Dee_9 d_Dee_undoLatest_158 ?_
      refine al_D_1 d_Dee_undoLatest_161 (by omega) (by omega) ?_
      first
      | exact z_iret rfl d_Dee_undoLatest_162 (by omega) (h0_ (by omega) (by omega) h72)
      | exact z_iret rfl d_Dee_undoLatest_162 (by omega) (h1_ (by omega) (by omega) h72)
      | exact z_iret rfl d_Dee_undoLatest_162 (by omega) (h2_ (by omega) (by omega) h72)
      | exact z_iret rfl d_Dee_undoLatest_162 (by omega) (h3_ (by omega) (by omega))
    refine z_case (2) (fun h29_2 => ?_) (fun h29_2 => ?_)
    · refine z_tabIn (t := 109) (o := 80) d_Dee_undoLatest_29 (by first | omega | exact hw _ | exact hx _ _ | assumption) (by omega) (by omega) (by rw [h29_2]; rfl) (by decide) ?_
      refine j_aload_n d_Dee_undoLatest_109 rfl ?_
      refine gf_D_0_2 f_Dee_25 d_Dee_undoLatest_110 ?_
      refine gf_D_4_0 f_Dee_39 d_Dee_undoLatest_113 ?_
      refine j_aload_n d_Dee_undoLatest_116 rfl ?_
      refine gf_D_0_4 f_Dee_19 d_Dee_undoLatest_117 ?_
      refine j_aload_n d_Dee_undoLatest_120 rfl ?_
      refine gf_D_0_0 f_Dee_9 d_Dee_undoLatest_121 ?_
      refine al_D_2 d_Dee_undoLatest_124 (by omega) (by omega) ?_
      refine j_aload_n d_Dee_undoLatest_125 rfl ?_
      refine gf_D_0_5 f_Dee_22 d_Dee_undoLatest_126 ?_
      refine j_aload_n d_Dee_undoLatest_129 rfl ?_
      refine gf_D_0_0 f_Dee_9 d_Dee_undoLatest_130 ?_
      refine al_D_3 d_Dee_undoLatest_133 (by omega) (by omega) ?_
      refine v_call2 d_Dee_undoLatest_134 c_Dee_84 rfl ⟨_, rfl, rfl⟩ (Nat.le_of_ble_eq_true rfl) (E_D_Row (fun Q2 kz => t_Row_replace (by omega) (by omega) (by omega) (fun h72 => kz _ _ _ _ _ _ _ _ rfl ?_) (fun h72 => kz _ _ _ _ _ _ _ _ rfl (by exfalso; exact h72 (hok1.2.2 (by omega))))) rfl)
      refine j_goto (t := 153) d_Dee_undoLatest_137 (by decide) ?_
      refine j_aload_n d_Dee_undoLatest_153 rfl ?_
      refine gf_D_0_3 f_Dee_15 d_Dee_undoLatest_154 ?_
      refine j_aload_n d_Dee_undoLatest_157 rfl ?_
      refine gf_D_0_0 f_Dee_9 d_Dee_undoLatest_158 ?_
      refine al_D_1 d_Dee_undoLatest_161 (by omega) (by omega) ?_
      first
      | exact z_iret rfl d_Dee_undoLatest_162 (by omega) (h0_ (by omega) (by omega) h72)
      | exact z_iret rfl d_Dee_undoLatest_162 (by omega) (h1_ (by omega) (by omega) h72)
      | exact z_iret rfl d_Dee_undoLatest_162 (by omega) (h2_ (by omega) (by omega) h72)
      | exact z_iret rfl d_Dee_undoLatest_162 (by omega) (h3_ (by omega) (by omega))
    refine z_tabOut (t := 140) d_Dee_undoLatest_29 (by first | omega | exact hw _ | exact hx _ _ | assumption) (by omega) (by decide) ?_
    refine j_aload_n d_Dee_undoLatest_140 rfl ?_
    refine gf_D_0_2 f_Dee_25 d_Dee_undoLatest_141 ?_
    refine gf_D_4_1 f_Dee_87 d_Dee_undoLatest_144 ?_
    refine z_iconst d_Dee_undoLatest_147 ?_
    refine j_dup2 d_Dee_undoLatest_148 rfl rfl ?_
    refine al_D_10 d_Dee_undoLatest_149 (by omega) (by omega) ?_
    refine z_iconst d_Dee_undoLatest_150 ?_
    refine z_isub d_Dee_undoLatest_151 ?_
    refine as_D_10 d_Dee_undoLatest_152 (by omega) (by omega) ?_
    refine j_aload_n d_Dee_undoLatest_153 rfl ?_
    refine gf_D_0_3 f_Dee_15 d_Dee_undoLatest_154 ?_
    refine j_aload_n d_Dee_undoLatest_157 rfl ?_
    refine gf_D_0_0 f_Dee_9 d_Dee_undoLatest_158 ?_
    refine al_D_1 d_Dee_undoLatest_161 (by omega) (by omega) ?_
    first
    | exact z_iret rfl d_Dee_undoLatest_162 (by omega) (h0_ (by omega) (by omega) h72)
    | exact z_iret rfl d_Dee_undoLatest_162 (by omega) (h1_ (by omega) (by omega) h72)
    | exact z_iret rfl d_Dee_undoLatest_162 (by omega) (h2_ (by omega) (by omega) h72)
    | exact z_iret rfl d_Dee_undoLatest_162 (by omega) (h3_ (by omega) (by omega))
  · refine z_bipush d_Dee_undoLatest_7 (by decide) ?_
    exact z_iret rfl d_Dee_undoLatest_9 rfl (hno (by omega))
