def EvT (ts ff st vl wd : Int → Int) (sz : Int) (tv fv fb : Int → Int) (n : Int) : Prop := ∀ c, 0 ≤ c → c < n → (ts c = -1 ∨ (0 ≤ ts c ∧ ts c ≤ sz ∧ rgo (tv c) ∧ ∃ b, ∀ sk, mach st vl wd (sz - ts c).toNat (ts c) 0 sk (ts c) = some (tv c, b))) ∧ (ff c = -1 ∨ (0 ≤ ff c ∧ ff c ≤ sz ∧ rgo (fv c) ∧ b01 (fb c) ∧ ∀ sk, mach st vl wd (sz - ff c).toNat (ff c) 0 sk (ff c) = some (fv c, fb c)))
abbrev hlP (ts ff tv fb : Int → Int) (c : Int) : Prop := (ts c = -1 ∨ tv c ≠ 0) ∧ (ff c = -1 ∨ fb c = 0)
def amF (kn ts ff tv fv fb : Int → Int) (what : Int) : Nat → Int
  | 0 => 1
  | n + 1 => if kn (n : Int) = what ∧ hlP ts ff tv fb (n : Int) then max 0 (min 99 (fv (n : Int))) else amF kn ts ff tv fv fb what n
def aqW (x : Int → Int) (s p n mood page : Int) : Int → Int := up (up (up (up (up (up (up (up x 0 (kd s)) 1 (if s < 3 then 1 else 0)) 2 (if 6 ≤ s then s - 6 else -1)) 3 p) 4 mood) 5 s) 6 n) 7 page
def W_AK (td : Int) (br : Int) (lc : Int) (fo : Int) (rn : Int) (rl : Int) (rp : Int) (tc : Int) (sz : Int) (sk : Int → Int) (wd : Int → Int) (tm : Int → Int) (kn : Int → Int) (ff : Int → Int) (sc : Int → Int) (ts : Int → Int) (mm : Int → Int) (st : Int → Int) (vl : Int → Int) (CL : Nat) (SL : Nat) : List xM := [.inr (0, [.ref 1, .ref 3, .int (ii td)]), .inr (8, [.int (ii br), .ref 2]), .inl (0, 51, .inl (ia (sk))), .inl (0, 52, .inl (ia (wd))), .inr (7, [.ref 5, .ref 6, .ref 15, .int (ii lc), .int (ii fo)]), .inr (5, [.ref 16, .int (ii rn), .ref 17, .ref 18, .ref 19, .int (ii rl), .int (ii rp)]), .inl (0, 3, .inl (ia (tm))), .inr (10, [.ref 8, .ref 9, .ref 10, .ref 11, .ref 12, .ref 13, .ref 14, .int (ii tc), .int (ii sz)]), .inl (0, CL, .inl (ia (kn))), .inl (0, CL, .inl (ia (ff))), .inl (0, CL, .inl (ia (sc))), .inl (0, CL, .inl (ia (ts))), .inl (0, CL, .inl (ia (mm))), .inl (0, SL, .inl (ia (st))), .inl (0, SL, .inl (ia (vl)))]
section WR_AK
variable {g : Bool} {y : xY} {d pc : Nat} {L : List (Option Value)} {zst : List Value} {bc bs : Nat} {Q : List xM → Option Value → Prop} {td br lc fo rn rl rp tc sz : Int} {sk wd tm kn ff sc ts mm st vl : Int → Int} {CL SL : Nat} 
theorem gf_AK_0_0 {idx : Nat} (hf : x_fs y.1.cls idx 0 0) (hd : decode y.2.1 pc = .ok (.getfield idx, 3)) (kk : SJ g y d (pc + 3) L (.ref 1 :: zst) (W_AK td br lc fo rn rl rp tc sz sk wd tm kn ff sc ts mm st vl CL SL) bc bs Q) : SJ g y d pc L (.ref 0 :: zst) (W_AK td br lc fo rn rl rp tc sz sk wd tm kn ff sc ts mm st vl CL SL) bc bs Q := j_getf hd hf rfl rfl kk
theorem gf_AK_0_1 {idx : Nat} (hf : x_fs y.1.cls idx 0 1) (hd : decode y.2.1 pc = .ok (.getfield idx, 3)) (kk : SJ g y d (pc + 3) L (.ref 3 :: zst) (W_AK td br lc fo rn rl rp tc sz sk wd tm kn ff sc ts mm st vl CL SL) bc bs Q) : SJ g y d pc L (.ref 0 :: zst) (W_AK td br lc fo rn rl rp tc sz sk wd tm kn ff sc ts mm st vl CL SL) bc bs Q := j_getf hd hf rfl rfl kk
theorem gf_AK_0_2 {idx : Nat} (hf : x_fs y.1.cls idx 0 2) (hd : decode y.2.1 pc = .ok (.getfield idx, 3)) (kk : SJ g y d (pc + 3) L (.int (ii td) :: zst) (W_AK td br lc fo rn rl rp tc sz sk wd tm kn ff sc ts mm st vl CL SL) bc bs Q) : SJ g y d pc L (.ref 0 :: zst) (W_AK td br lc fo rn rl rp tc sz sk wd tm kn ff sc ts mm st vl CL SL) bc bs Q := j_getf hd hf rfl rfl kk
theorem pf_AK_0_2 {idx : Nat} {v : Int} (hf : x_fs y.1.cls idx 0 2) (hd : decode y.2.1 pc = .ok (.putfield idx, 3)) (kk : SJ g y d (pc + 3) L zst (W_AK v br lc fo rn rl rp tc sz sk wd tm kn ff sc ts mm st vl CL SL) bc bs Q) : SJ g y d pc L (.int (ii v) :: .ref 0 :: zst) (W_AK td br lc fo rn rl rp tc sz sk wd tm kn ff sc ts mm st vl CL SL) bc bs Q := j_putf (ci := 0) (k := 2) hd hf ⟨_, rfl, rfl, rfl⟩ rfl (Nat.le_of_ble_eq_true rfl) x_okI kk
theorem gf_AK_1_0 {idx : Nat} (hf : x_fs y.1.cls idx 8 0) (hd : decode y.2.1 pc = .ok (.getfield idx, 3)) (kk : SJ g y d (pc + 3) L (.int (ii br) :: zst) (W_AK td br lc fo rn rl rp tc sz sk wd tm kn ff sc ts mm st vl CL SL) bc bs Q) : SJ g y d pc L (.ref 1 :: zst) (W_AK td br lc fo rn rl rp tc sz sk wd tm kn ff sc ts mm st vl CL SL) bc bs Q := j_getf hd hf rfl rfl kk
theorem pf_AK_1_0 {idx : Nat} {v : Int} (hf : x_fs y.1.cls idx 8 0) (hd : decode y.2.1 pc = .ok (.putfield idx, 3)) (hv : v = 0 ∨ v = 1) (kk : SJ g y d (pc + 3) L zst (W_AK td v lc fo rn rl rp tc sz sk wd tm kn ff sc ts mm st vl CL SL) bc bs Q) : SJ g y d pc L (.int (ii v) :: .ref 1 :: zst) (W_AK td br lc fo rn rl rp tc sz sk wd tm kn ff sc ts mm st vl CL SL) bc bs Q := j_putf (ci := 8) (k := 0) hd hf ⟨_, rfl, rfl, rfl⟩ rfl (Nat.le_of_ble_eq_true rfl) (by rcases hv with rfl | rfl; exact x_ok0; exact x_ok1) kk
theorem gf_AK_1_1 {idx : Nat} (hf : x_fs y.1.cls idx 8 1) (hd : decode y.2.1 pc = .ok (.getfield idx, 3)) (kk : SJ g y d (pc + 3) L (.ref 2 :: zst) (W_AK td br lc fo rn rl rp tc sz sk wd tm kn ff sc ts mm st vl CL SL) bc bs Q) : SJ g y d pc L (.ref 1 :: zst) (W_AK td br lc fo rn rl rp tc sz sk wd tm kn ff sc ts mm st vl CL SL) bc bs Q := j_getf hd hf rfl rfl kk
theorem al_AK_2 {a : Int} (hd : decode y.2.1 pc = .ok (.iaload, 1)) (h0 : 0 ≤ a) (h1 : a < 51) (kk : SJ g y d (pc + 1) L (.int (ii (sk a)) :: zst) (W_AK td br lc fo rn rl rp tc sz sk wd tm kn ff sc ts mm st vl CL SL) bc bs Q) : SJ g y d pc L (.int (ii a) :: .ref 2 :: zst) (W_AK td br lc fo rn rl rp tc sz sk wd tm kn ff sc ts mm st vl CL SL) bc bs Q := z_iald hd rfl h0 h1 ⟨by omega, by omega⟩ kk
theorem as_AK_2 {a v : Int} (hd : decode y.2.1 pc = .ok (.iastore, 1)) (h0 : 0 ≤ a) (h1 : a < 51) (kk : SJ g y d (pc + 1) L zst (W_AK td br lc fo rn rl rp tc sz (up sk a v) wd tm kn ff sc ts mm st vl CL SL) bc bs Q) : SJ g y d pc L (.int (ii v) :: .int (ii a) :: .ref 2 :: zst) (W_AK td br lc fo rn rl rp tc sz sk wd tm kn ff sc ts mm st vl CL SL) bc bs Q := z_iast hd rfl h0 h1 ⟨by omega, by omega⟩ kk
theorem al_AK_3 {a : Int} (hd : decode y.2.1 pc = .ok (.iaload, 1)) (h0 : 0 ≤ a) (h1 : a < 52) (kk : SJ g y d (pc + 1) L (.int (ii (wd a)) :: zst) (W_AK td br lc fo rn rl rp tc sz sk wd tm kn ff sc ts mm st vl CL SL) bc bs Q) : SJ g y d pc L (.int (ii a) :: .ref 3 :: zst) (W_AK td br lc fo rn rl rp tc sz sk wd tm kn ff sc ts mm st vl CL SL) bc bs Q := z_iald hd rfl h0 h1 ⟨by omega, by omega⟩ kk
theorem as_AK_3 {a v : Int} (hd : decode y.2.1 pc = .ok (.iastore, 1)) (h0 : 0 ≤ a) (h1 : a < 52) (kk : SJ g y d (pc + 1) L zst (W_AK td br lc fo rn rl rp tc sz sk (up wd a v) tm kn ff sc ts mm st vl CL SL) bc bs Q) : SJ g y d pc L (.int (ii v) :: .int (ii a) :: .ref 3 :: zst) (W_AK td br lc fo rn rl rp tc sz sk wd tm kn ff sc ts mm st vl CL SL) bc bs Q := z_iast hd rfl h0 h1 ⟨by omega, by omega⟩ kk
theorem gf_AK_4_0 {idx : Nat} (hf : x_fs y.1.cls idx 7 0) (hd : decode y.2.1 pc = .ok (.getfield idx, 3)) (kk : SJ g y d (pc + 3) L (.ref 5 :: zst) (W_AK td br lc fo rn rl rp tc sz sk wd tm kn ff sc ts mm st vl CL SL) bc bs Q) : SJ g y d pc L (.ref 4 :: zst) (W_AK td br lc fo rn rl rp tc sz sk wd tm kn ff sc ts mm st vl CL SL) bc bs Q := j_getf hd hf rfl rfl kk
theorem gf_AK_4_1 {idx : Nat} (hf : x_fs y.1.cls idx 7 1) (hd : decode y.2.1 pc = .ok (.getfield idx, 3)) (kk : SJ g y d (pc + 3) L (.ref 6 :: zst) (W_AK td br lc fo rn rl rp tc sz sk wd tm kn ff sc ts mm st vl CL SL) bc bs Q) : SJ g y d pc L (.ref 4 :: zst) (W_AK td br lc fo rn rl rp tc sz sk wd tm kn ff sc ts mm st vl CL SL) bc bs Q := j_getf hd hf rfl rfl kk
theorem gf_AK_4_2 {idx : Nat} (hf : x_fs y.1.cls idx 7 2) (hd : decode y.2.1 pc = .ok (.getfield idx, 3)) (kk : SJ g y d (pc + 3) L (.ref 15 :: zst) (W_AK td br lc fo rn rl rp tc sz sk wd tm kn ff sc ts mm st vl CL SL) bc bs Q) : SJ g y d pc L (.ref 4 :: zst) (W_AK td br lc fo rn rl rp tc sz sk wd tm kn ff sc ts mm st vl CL SL) bc bs Q := j_getf hd hf rfl rfl kk
theorem gf_AK_4_3 {idx : Nat} (hf : x_fs y.1.cls idx 7 3) (hd : decode y.2.1 pc = .ok (.getfield idx, 3)) (kk : SJ g y d (pc + 3) L (.int (ii lc) :: zst) (W_AK td br lc fo rn rl rp tc sz sk wd tm kn ff sc ts mm st vl CL SL) bc bs Q) : SJ g y d pc L (.ref 4 :: zst) (W_AK td br lc fo rn rl rp tc sz sk wd tm kn ff sc ts mm st vl CL SL) bc bs Q := j_getf hd hf rfl rfl kk
theorem pf_AK_4_3 {idx : Nat} {v : Int} (hf : x_fs y.1.cls idx 7 3) (hd : decode y.2.1 pc = .ok (.putfield idx, 3)) (kk : SJ g y d (pc + 3) L zst (W_AK td br v fo rn rl rp tc sz sk wd tm kn ff sc ts mm st vl CL SL) bc bs Q) : SJ g y d pc L (.int (ii v) :: .ref 4 :: zst) (W_AK td br lc fo rn rl rp tc sz sk wd tm kn ff sc ts mm st vl CL SL) bc bs Q := j_putf (ci := 7) (k := 3) hd hf ⟨_, rfl, rfl, rfl⟩ rfl (Nat.le_of_ble_eq_true rfl) x_okI kk
theorem gf_AK_4_4 {idx : Nat} (hf : x_fs y.1.cls idx 7 4) (hd : decode y.2.1 pc = .ok (.getfield idx, 3)) (kk : SJ g y d (pc + 3) L (.int (ii fo) :: zst) (W_AK td br lc fo rn rl rp tc sz sk wd tm kn ff sc ts mm st vl CL SL) bc bs Q) : SJ g y d pc L (.ref 4 :: zst) (W_AK td br lc fo rn rl rp tc sz sk wd tm kn ff sc ts mm st vl CL SL) bc bs Q := j_getf hd hf rfl rfl kk
theorem pf_AK_4_4 {idx : Nat} {v : Int} (hf : x_fs y.1.cls idx 7 4) (hd : decode y.2.1 pc = .ok (.putfield idx, 3)) (kk : SJ g y d (pc + 3) L zst (W_AK td br lc v rn rl rp tc sz sk wd tm kn ff sc ts mm st vl CL SL) bc bs Q) : SJ g y d pc L (.int (ii v) :: .ref 4 :: zst) (W_AK td br lc fo rn rl rp tc sz sk wd tm kn ff sc ts mm st vl CL SL) bc bs Q := j_putf (ci := 7) (k := 4) hd hf ⟨_, rfl, rfl, rfl⟩ rfl (Nat.le_of_ble_eq_true rfl) x_okI kk
theorem gf_AK_5_0 {idx : Nat} (hf : x_fs y.1.cls idx 5 0) (hd : decode y.2.1 pc = .ok (.getfield idx, 3)) (kk : SJ g y d (pc + 3) L (.ref 16 :: zst) (W_AK td br lc fo rn rl rp tc sz sk wd tm kn ff sc ts mm st vl CL SL) bc bs Q) : SJ g y d pc L (.ref 5 :: zst) (W_AK td br lc fo rn rl rp tc sz sk wd tm kn ff sc ts mm st vl CL SL) bc bs Q := j_getf hd hf rfl rfl kk
theorem gf_AK_5_1 {idx : Nat} (hf : x_fs y.1.cls idx 5 1) (hd : decode y.2.1 pc = .ok (.getfield idx, 3)) (kk : SJ g y d (pc + 3) L (.int (ii rn) :: zst) (W_AK td br lc fo rn rl rp tc sz sk wd tm kn ff sc ts mm st vl CL SL) bc bs Q) : SJ g y d pc L (.ref 5 :: zst) (W_AK td br lc fo rn rl rp tc sz sk wd tm kn ff sc ts mm st vl CL SL) bc bs Q := j_getf hd hf rfl rfl kk
theorem pf_AK_5_1 {idx : Nat} {v : Int} (hf : x_fs y.1.cls idx 5 1) (hd : decode y.2.1 pc = .ok (.putfield idx, 3)) (kk : SJ g y d (pc + 3) L zst (W_AK td br lc fo v rl rp tc sz sk wd tm kn ff sc ts mm st vl CL SL) bc bs Q) : SJ g y d pc L (.int (ii v) :: .ref 5 :: zst) (W_AK td br lc fo rn rl rp tc sz sk wd tm kn ff sc ts mm st vl CL SL) bc bs Q := j_putf (ci := 5) (k := 1) hd hf ⟨_, rfl, rfl, rfl⟩ rfl (Nat.le_of_ble_eq_true rfl) x_okI kk
theorem gf_AK_5_2 {idx : Nat} (hf : x_fs y.1.cls idx 5 2) (hd : decode y.2.1 pc = .ok (.getfield idx, 3)) (kk : SJ g y d (pc + 3) L (.ref 17 :: zst) (W_AK td br lc fo rn rl rp tc sz sk wd tm kn ff sc ts mm st vl CL SL) bc bs Q) : SJ g y d pc L (.ref 5 :: zst) (W_AK td br lc fo rn rl rp tc sz sk wd tm kn ff sc ts mm st vl CL SL) bc bs Q := j_getf hd hf rfl rfl kk
theorem gf_AK_5_3 {idx : Nat} (hf : x_fs y.1.cls idx 5 3) (hd : decode y.2.1 pc = .ok (.getfield idx, 3)) (kk : SJ g y d (pc + 3) L (.ref 18 :: zst) (W_AK td br lc fo rn rl rp tc sz sk wd tm kn ff sc ts mm st vl CL SL) bc bs Q) : SJ g y d pc L (.ref 5 :: zst) (W_AK td br lc fo rn rl rp tc sz sk wd tm kn ff sc ts mm st vl CL SL) bc bs Q := j_getf hd hf rfl rfl kk
theorem gf_AK_5_4 {idx : Nat} (hf : x_fs y.1.cls idx 5 4) (hd : decode y.2.1 pc = .ok (.getfield idx, 3)) (kk : SJ g y d (pc + 3) L (.ref 19 :: zst) (W_AK td br lc fo rn rl rp tc sz sk wd tm kn ff sc ts mm st vl CL SL) bc bs Q) : SJ g y d pc L (.ref 5 :: zst) (W_AK td br lc fo rn rl rp tc sz sk wd tm kn ff sc ts mm st vl CL SL) bc bs Q := j_getf hd hf rfl rfl kk
theorem gf_AK_5_5 {idx : Nat} (hf : x_fs y.1.cls idx 5 5) (hd : decode y.2.1 pc = .ok (.getfield idx, 3)) (kk : SJ g y d (pc + 3) L (.int (ii rl) :: zst) (W_AK td br lc fo rn rl rp tc sz sk wd tm kn ff sc ts mm st vl CL SL) bc bs Q) : SJ g y d pc L (.ref 5 :: zst) (W_AK td br lc fo rn rl rp tc sz sk wd tm kn ff sc ts mm st vl CL SL) bc bs Q := j_getf hd hf rfl rfl kk
theorem pf_AK_5_5 {idx : Nat} {v : Int} (hf : x_fs y.1.cls idx 5 5) (hd : decode y.2.1 pc = .ok (.putfield idx, 3)) (kk : SJ g y d (pc + 3) L zst (W_AK td br lc fo rn v rp tc sz sk wd tm kn ff sc ts mm st vl CL SL) bc bs Q) : SJ g y d pc L (.int (ii v) :: .ref 5 :: zst) (W_AK td br lc fo rn rl rp tc sz sk wd tm kn ff sc ts mm st vl CL SL) bc bs Q := j_putf (ci := 5) (k := 5) hd hf ⟨_, rfl, rfl, rfl⟩ rfl (Nat.le_of_ble_eq_true rfl) x_okI kk
theorem gf_AK_5_6 {idx : Nat} (hf : x_fs y.1.cls idx 5 6) (hd : decode y.2.1 pc = .ok (.getfield idx, 3)) (kk : SJ g y d (pc + 3) L (.int (ii rp) :: zst) (W_AK td br lc fo rn rl rp tc sz sk wd tm kn ff sc ts mm st vl CL SL) bc bs Q) : SJ g y d pc L (.ref 5 :: zst) (W_AK td br lc fo rn rl rp tc sz sk wd tm kn ff sc ts mm st vl CL SL) bc bs Q := j_getf hd hf rfl rfl kk
theorem pf_AK_5_6 {idx : Nat} {v : Int} (hf : x_fs y.1.cls idx 5 6) (hd : decode y.2.1 pc = .ok (.putfield idx, 3)) (hv : v = 0 ∨ v = 1) (kk : SJ g y d (pc + 3) L zst (W_AK td br lc fo rn rl v tc sz sk wd tm kn ff sc ts mm st vl CL SL) bc bs Q) : SJ g y d pc L (.int (ii v) :: .ref 5 :: zst) (W_AK td br lc fo rn rl rp tc sz sk wd tm kn ff sc ts mm st vl CL SL) bc bs Q := j_putf (ci := 5) (k := 6) hd hf ⟨_, rfl, rfl, rfl⟩ rfl (Nat.le_of_ble_eq_true rfl) (by rcases hv with rfl | rfl; exact x_ok0; exact x_ok1) kk
theorem al_AK_6 {a : Int} (hd : decode y.2.1 pc = .ok (.iaload, 1)) (h0 : 0 ≤ a) (h1 : a < 3) (kk : SJ g y d (pc + 1) L (.int (ii (tm a)) :: zst) (W_AK td br lc fo rn rl rp tc sz sk wd tm kn ff sc ts mm st vl CL SL) bc bs Q) : SJ g y d pc L (.int (ii a) :: .ref 6 :: zst) (W_AK td br lc fo rn rl rp tc sz sk wd tm kn ff sc ts mm st vl CL SL) bc bs Q := z_iald hd rfl h0 h1 ⟨by omega, by omega⟩ kk
theorem as_AK_6 {a v : Int} (hd : decode y.2.1 pc = .ok (.iastore, 1)) (h0 : 0 ≤ a) (h1 : a < 3) (kk : SJ g y d (pc + 1) L zst (W_AK td br lc fo rn rl rp tc sz sk wd (up tm a v) kn ff sc ts mm st vl CL SL) bc bs Q) : SJ g y d pc L (.int (ii v) :: .int (ii a) :: .ref 6 :: zst) (W_AK td br lc fo rn rl rp tc sz sk wd tm kn ff sc ts mm st vl CL SL) bc bs Q := z_iast hd rfl h0 h1 ⟨by omega, by omega⟩ kk
theorem gf_AK_7_0 {idx : Nat} (hf : x_fs y.1.cls idx 10 0) (hd : decode y.2.1 pc = .ok (.getfield idx, 3)) (kk : SJ g y d (pc + 3) L (.ref 8 :: zst) (W_AK td br lc fo rn rl rp tc sz sk wd tm kn ff sc ts mm st vl CL SL) bc bs Q) : SJ g y d pc L (.ref 7 :: zst) (W_AK td br lc fo rn rl rp tc sz sk wd tm kn ff sc ts mm st vl CL SL) bc bs Q := j_getf hd hf rfl rfl kk
theorem gf_AK_7_1 {idx : Nat} (hf : x_fs y.1.cls idx 10 1) (hd : decode y.2.1 pc = .ok (.getfield idx, 3)) (kk : SJ g y d (pc + 3) L (.ref 9 :: zst) (W_AK td br lc fo rn rl rp tc sz sk wd tm kn ff sc ts mm st vl CL SL) bc bs Q) : SJ g y d pc L (.ref 7 :: zst) (W_AK td br lc fo rn rl rp tc sz sk wd tm kn ff sc ts mm st vl CL SL) bc bs Q := j_getf hd hf rfl rfl kk
theorem gf_AK_7_2 {idx : Nat} (hf : x_fs y.1.cls idx 10 2) (hd : decode y.2.1 pc = .ok (.getfield idx, 3)) (kk : SJ g y d (pc + 3) L (.ref 10 :: zst) (W_AK td br lc fo rn rl rp tc sz sk wd tm kn ff sc ts mm st vl CL SL) bc bs Q) : SJ g y d pc L (.ref 7 :: zst) (W_AK td br lc fo rn rl rp tc sz sk wd tm kn ff sc ts mm st vl CL SL) bc bs Q := j_getf hd hf rfl rfl kk
theorem gf_AK_7_3 {idx : Nat} (hf : x_fs y.1.cls idx 10 3) (hd : decode y.2.1 pc = .ok (.getfield idx, 3)) (kk : SJ g y d (pc + 3) L (.ref 11 :: zst) (W_AK td br lc fo rn rl rp tc sz sk wd tm kn ff sc ts mm st vl CL SL) bc bs Q) : SJ g y d pc L (.ref 7 :: zst) (W_AK td br lc fo rn rl rp tc sz sk wd tm kn ff sc ts mm st vl CL SL) bc bs Q := j_getf hd hf rfl rfl kk
theorem gf_AK_7_4 {idx : Nat} (hf : x_fs y.1.cls idx 10 4) (hd : decode y.2.1 pc = .ok (.getfield idx, 3)) (kk : SJ g y d (pc + 3) L (.ref 12 :: zst) (W_AK td br lc fo rn rl rp tc sz sk wd tm kn ff sc ts mm st vl CL SL) bc bs Q) : SJ g y d pc L (.ref 7 :: zst) (W_AK td br lc fo rn rl rp tc sz sk wd tm kn ff sc ts mm st vl CL SL) bc bs Q := j_getf hd hf rfl rfl kk
theorem gf_AK_7_5 {idx : Nat} (hf : x_fs y.1.cls idx 10 5) (hd : decode y.2.1 pc = .ok (.getfield idx, 3)) (kk : SJ g y d (pc + 3) L (.ref 13 :: zst) (W_AK td br lc fo rn rl rp tc sz sk wd tm kn ff sc ts mm st vl CL SL) bc bs Q) : SJ g y d pc L (.ref 7 :: zst) (W_AK td br lc fo rn rl rp tc sz sk wd tm kn ff sc ts mm st vl CL SL) bc bs Q := j_getf hd hf rfl rfl kk
theorem gf_AK_7_6 {idx : Nat} (hf : x_fs y.1.cls idx 10 6) (hd : decode y.2.1 pc = .ok (.getfield idx, 3)) (kk : SJ g y d (pc + 3) L (.ref 14 :: zst) (W_AK td br lc fo rn rl rp tc sz sk wd tm kn ff sc ts mm st vl CL SL) bc bs Q) : SJ g y d pc L (.ref 7 :: zst) (W_AK td br lc fo rn rl rp tc sz sk wd tm kn ff sc ts mm st vl CL SL) bc bs Q := j_getf hd hf rfl rfl kk
theorem gf_AK_7_7 {idx : Nat} (hf : x_fs y.1.cls idx 10 7) (hd : decode y.2.1 pc = .ok (.getfield idx, 3)) (kk : SJ g y d (pc + 3) L (.int (ii tc) :: zst) (W_AK td br lc fo rn rl rp tc sz sk wd tm kn ff sc ts mm st vl CL SL) bc bs Q) : SJ g y d pc L (.ref 7 :: zst) (W_AK td br lc fo rn rl rp tc sz sk wd tm kn ff sc ts mm st vl CL SL) bc bs Q := j_getf hd hf rfl rfl kk
theorem pf_AK_7_7 {idx : Nat} {v : Int} (hf : x_fs y.1.cls idx 10 7) (hd : decode y.2.1 pc = .ok (.putfield idx, 3)) (kk : SJ g y d (pc + 3) L zst (W_AK td br lc fo rn rl rp v sz sk wd tm kn ff sc ts mm st vl CL SL) bc bs Q) : SJ g y d pc L (.int (ii v) :: .ref 7 :: zst) (W_AK td br lc fo rn rl rp tc sz sk wd tm kn ff sc ts mm st vl CL SL) bc bs Q := j_putf (ci := 10) (k := 7) hd hf ⟨_, rfl, rfl, rfl⟩ rfl (Nat.le_of_ble_eq_true rfl) x_okI kk
theorem gf_AK_7_8 {idx : Nat} (hf : x_fs y.1.cls idx 10 8) (hd : decode y.2.1 pc = .ok (.getfield idx, 3)) (kk : SJ g y d (pc + 3) L (.int (ii sz) :: zst) (W_AK td br lc fo rn rl rp tc sz sk wd tm kn ff sc ts mm st vl CL SL) bc bs Q) : SJ g y d pc L (.ref 7 :: zst) (W_AK td br lc fo rn rl rp tc sz sk wd tm kn ff sc ts mm st vl CL SL) bc bs Q := j_getf hd hf rfl rfl kk
theorem pf_AK_7_8 {idx : Nat} {v : Int} (hf : x_fs y.1.cls idx 10 8) (hd : decode y.2.1 pc = .ok (.putfield idx, 3)) (kk : SJ g y d (pc + 3) L zst (W_AK td br lc fo rn rl rp tc v sk wd tm kn ff sc ts mm st vl CL SL) bc bs Q) : SJ g y d pc L (.int (ii v) :: .ref 7 :: zst) (W_AK td br lc fo rn rl rp tc sz sk wd tm kn ff sc ts mm st vl CL SL) bc bs Q := j_putf (ci := 10) (k := 8) hd hf ⟨_, rfl, rfl, rfl⟩ rfl (Nat.le_of_ble_eq_true rfl) x_okI kk
theorem al_AK_8 {a : Int} (hd : decode y.2.1 pc = .ok (.iaload, 1)) (h0 : 0 ≤ a) (h1 : a < ((CL : Nat) : Int)) (ha : R32 a) (kk : SJ g y d (pc + 1) L (.int (ii (kn a)) :: zst) (W_AK td br lc fo rn rl rp tc sz sk wd tm kn ff sc ts mm st vl CL SL) bc bs Q) : SJ g y d pc L (.int (ii a) :: .ref 8 :: zst) (W_AK td br lc fo rn rl rp tc sz sk wd tm kn ff sc ts mm st vl CL SL) bc bs Q := z_iald hd rfl h0 h1 ha kk
theorem as_AK_8 {a v : Int} (hd : decode y.2.1 pc = .ok (.iastore, 1)) (h0 : 0 ≤ a) (h1 : a < ((CL : Nat) : Int)) (ha : R32 a) (kk : SJ g y d (pc + 1) L zst (W_AK td br lc fo rn rl rp tc sz sk wd tm (up kn a v) ff sc ts mm st vl CL SL) bc bs Q) : SJ g y d pc L (.int (ii v) :: .int (ii a) :: .ref 8 :: zst) (W_AK td br lc fo rn rl rp tc sz sk wd tm kn ff sc ts mm st vl CL SL) bc bs Q := z_iast hd rfl h0 h1 ha kk
theorem al_AK_9 {a : Int} (hd : decode y.2.1 pc = .ok (.iaload, 1)) (h0 : 0 ≤ a) (h1 : a < ((CL : Nat) : Int)) (ha : R32 a) (kk : SJ g y d (pc + 1) L (.int (ii (ff a)) :: zst) (W_AK td br lc fo rn rl rp tc sz sk wd tm kn ff sc ts mm st vl CL SL) bc bs Q) : SJ g y d pc L (.int (ii a) :: .ref 9 :: zst) (W_AK td br lc fo rn rl rp tc sz sk wd tm kn ff sc ts mm st vl CL SL) bc bs Q := z_iald hd rfl h0 h1 ha kk
theorem as_AK_9 {a v : Int} (hd : decode y.2.1 pc = .ok (.iastore, 1)) (h0 : 0 ≤ a) (h1 : a < ((CL : Nat) : Int)) (ha : R32 a) (kk : SJ g y d (pc + 1) L zst (W_AK td br lc fo rn rl rp tc sz sk wd tm kn (up ff a v) sc ts mm st vl CL SL) bc bs Q) : SJ g y d pc L (.int (ii v) :: .int (ii a) :: .ref 9 :: zst) (W_AK td br lc fo rn rl rp tc sz sk wd tm kn ff sc ts mm st vl CL SL) bc bs Q := z_iast hd rfl h0 h1 ha kk
theorem al_AK_10 {a : Int} (hd : decode y.2.1 pc = .ok (.iaload, 1)) (h0 : 0 ≤ a) (h1 : a < ((CL : Nat) : Int)) (ha : R32 a) (kk : SJ g y d (pc + 1) L (.int (ii (sc a)) :: zst) (W_AK td br lc fo rn rl rp tc sz sk wd tm kn ff sc ts mm st vl CL SL) bc bs Q) : SJ g y d pc L (.int (ii a) :: .ref 10 :: zst) (W_AK td br lc fo rn rl rp tc sz sk wd tm kn ff sc ts mm st vl CL SL) bc bs Q := z_iald hd rfl h0 h1 ha kk
theorem as_AK_10 {a v : Int} (hd : decode y.2.1 pc = .ok (.iastore, 1)) (h0 : 0 ≤ a) (h1 : a < ((CL : Nat) : Int)) (ha : R32 a) (kk : SJ g y d (pc + 1) L zst (W_AK td br lc fo rn rl rp tc sz sk wd tm kn ff (up sc a v) ts mm st vl CL SL) bc bs Q) : SJ g y d pc L (.int (ii v) :: .int (ii a) :: .ref 10 :: zst) (W_AK td br lc fo rn rl rp tc sz sk wd tm kn ff sc ts mm st vl CL SL) bc bs Q := z_iast hd rfl h0 h1 ha kk
theorem al_AK_11 {a : Int} (hd : decode y.2.1 pc = .ok (.iaload, 1)) (h0 : 0 ≤ a) (h1 : a < ((CL : Nat) : Int)) (ha : R32 a) (kk : SJ g y d (pc + 1) L (.int (ii (ts a)) :: zst) (W_AK td br lc fo rn rl rp tc sz sk wd tm kn ff sc ts mm st vl CL SL) bc bs Q) : SJ g y d pc L (.int (ii a) :: .ref 11 :: zst) (W_AK td br lc fo rn rl rp tc sz sk wd tm kn ff sc ts mm st vl CL SL) bc bs Q := z_iald hd rfl h0 h1 ha kk
theorem as_AK_11 {a v : Int} (hd : decode y.2.1 pc = .ok (.iastore, 1)) (h0 : 0 ≤ a) (h1 : a < ((CL : Nat) : Int)) (ha : R32 a) (kk : SJ g y d (pc + 1) L zst (W_AK td br lc fo rn rl rp tc sz sk wd tm kn ff sc (up ts a v) mm st vl CL SL) bc bs Q) : SJ g y d pc L (.int (ii v) :: .int (ii a) :: .ref 11 :: zst) (W_AK td br lc fo rn rl rp tc sz sk wd tm kn ff sc ts mm st vl CL SL) bc bs Q := z_iast hd rfl h0 h1 ha kk
theorem al_AK_12 {a : Int} (hd : decode y.2.1 pc = .ok (.iaload, 1)) (h0 : 0 ≤ a) (h1 : a < ((CL : Nat) : Int)) (ha : R32 a) (kk : SJ g y d (pc + 1) L (.int (ii (mm a)) :: zst) (W_AK td br lc fo rn rl rp tc sz sk wd tm kn ff sc ts mm st vl CL SL) bc bs Q) : SJ g y d pc L (.int (ii a) :: .ref 12 :: zst) (W_AK td br lc fo rn rl rp tc sz sk wd tm kn ff sc ts mm st vl CL SL) bc bs Q := z_iald hd rfl h0 h1 ha kk
theorem as_AK_12 {a v : Int} (hd : decode y.2.1 pc = .ok (.iastore, 1)) (h0 : 0 ≤ a) (h1 : a < ((CL : Nat) : Int)) (ha : R32 a) (kk : SJ g y d (pc + 1) L zst (W_AK td br lc fo rn rl rp tc sz sk wd tm kn ff sc ts (up mm a v) st vl CL SL) bc bs Q) : SJ g y d pc L (.int (ii v) :: .int (ii a) :: .ref 12 :: zst) (W_AK td br lc fo rn rl rp tc sz sk wd tm kn ff sc ts mm st vl CL SL) bc bs Q := z_iast hd rfl h0 h1 ha kk
theorem al_AK_13 {a : Int} (hd : decode y.2.1 pc = .ok (.iaload, 1)) (h0 : 0 ≤ a) (h1 : a < ((SL : Nat) : Int)) (ha : R32 a) (kk : SJ g y d (pc + 1) L (.int (ii (st a)) :: zst) (W_AK td br lc fo rn rl rp tc sz sk wd tm kn ff sc ts mm st vl CL SL) bc bs Q) : SJ g y d pc L (.int (ii a) :: .ref 13 :: zst) (W_AK td br lc fo rn rl rp tc sz sk wd tm kn ff sc ts mm st vl CL SL) bc bs Q := z_iald hd rfl h0 h1 ha kk
theorem as_AK_13 {a v : Int} (hd : decode y.2.1 pc = .ok (.iastore, 1)) (h0 : 0 ≤ a) (h1 : a < ((SL : Nat) : Int)) (ha : R32 a) (kk : SJ g y d (pc + 1) L zst (W_AK td br lc fo rn rl rp tc sz sk wd tm kn ff sc ts mm (up st a v) vl CL SL) bc bs Q) : SJ g y d pc L (.int (ii v) :: .int (ii a) :: .ref 13 :: zst) (W_AK td br lc fo rn rl rp tc sz sk wd tm kn ff sc ts mm st vl CL SL) bc bs Q := z_iast hd rfl h0 h1 ha kk
theorem al_AK_14 {a : Int} (hd : decode y.2.1 pc = .ok (.iaload, 1)) (h0 : 0 ≤ a) (h1 : a < ((SL : Nat) : Int)) (ha : R32 a) (kk : SJ g y d (pc + 1) L (.int (ii (vl a)) :: zst) (W_AK td br lc fo rn rl rp tc sz sk wd tm kn ff sc ts mm st vl CL SL) bc bs Q) : SJ g y d pc L (.int (ii a) :: .ref 14 :: zst) (W_AK td br lc fo rn rl rp tc sz sk wd tm kn ff sc ts mm st vl CL SL) bc bs Q := z_iald hd rfl h0 h1 ha kk
theorem as_AK_14 {a v : Int} (hd : decode y.2.1 pc = .ok (.iastore, 1)) (h0 : 0 ≤ a) (h1 : a < ((SL : Nat) : Int)) (ha : R32 a) (kk : SJ g y d (pc + 1) L zst (W_AK td br lc fo rn rl rp tc sz sk wd tm kn ff sc ts mm st (up vl a v) CL SL) bc bs Q) : SJ g y d pc L (.int (ii v) :: .int (ii a) :: .ref 14 :: zst) (W_AK td br lc fo rn rl rp tc sz sk wd tm kn ff sc ts mm st vl CL SL) bc bs Q := z_iast hd rfl h0 h1 ha kk
end WR_AK
theorem E_AK_SM {g : Bool} {y : xY} {d : Nat} {args as2 : List Value} {Q : List xM → Option Value → Prop} {td br lc fo rn rl rp tc sz : Int} {sk wd tm kn ff sc ts mm st vl : Int → Int} {CL SL : Nat} (h : ∀ Q2 : List xM → Option Value → Prop, (∀ (br_ : Int) (tc_ : Int) (sz_ : Int) (sk_ : Int → Int) (st_ : Int → Int) (vl_ : Int → Int) (wd_ : Int → Int) (r : Option Value), r.map (r_v (sgl [1, 2, 7, 13, 14, 3, 8, 9, 10, 11, 12] 15)) = r → Q (W_AK td br_ lc fo rn rl rp tc_ sz_ sk_ wd_ tm kn ff sc ts mm st_ vl_ CL SL) r → Q2 (W_SM br_ tc_ sz_ sk_ st_ vl_ wd_ SL) r) → CT false y d args (W_SM br tc sz sk st vl wd SL) 0 0 Q2) (ha2 : as2 = args.map (r_v (sgl [1, 2, 7, 13, 14, 3, 8, 9, 10, 11, 12] 15))) : CT g y d as2 (W_AK td br lc fo rn rl rp tc sz sk wd tm kn ff sc ts mm st vl CL SL) 0 0 Q :=
  CT.sub (sgl [1, 2, 7, 13, 14, 3, 8, 9, 10, 11, 12] 15) (sgl_inj (by decide) (by decide)) (Emb.hs (Emb.cons rfl (Emb.cons rfl (Emb.cons rfl (Emb.cons rfl (Emb.cons rfl (Emb.cons rfl (Emb.nil)))))))) ha2 (h _ (fun _ _ _ _ _ _ _ r hr hq => ⟨rfl, by rw [hr]; exact hq⟩))
theorem t_Ask_look {g : Bool} {d : Nat} {Q : List xM → Option Value → Prop} {td br lc fo rn rl rp tc sz : Int} {sk wd tm kn ff sc ts mm st vl : Int → Int} {CL SL : Nat} {s p : Int} (r1 : R32 s) (hQ : Q (W_AK td br lc fo rn rl rp tc sz sk (aqW wd s p rn (tm 2) (tm 0)) tm kn ff sc ts mm st vl CL SL) none) : CT g m_Ask_look (d + 1) [.ref 0, .ref 4, .int (ii s), .int (ii p)] (W_AK td br lc fo rn rl rp tc sz sk wd tm kn ff sc ts mm st vl CL SL) 0 0 Q := by
  refine CT.of (by decide) (Nat.le_of_ble_eq_true rfl) ?_
  show SJ _ _ _ _ [some (.ref 0), some (.ref 4), some (.int (ii s)), some (.int (ii p))] [] _ _ _ _
  refine j_aload_n d_Ask_look_0 rfl ?_
  refine gf_AK_0_1 f_Ask_18 d_Ask_look_1 ?_
  refine z_iconst d_Ask_look_4 ?_
  refine j_iload_n d_Ask_look_5 rfl ?_
  refine s_call1 d_Ask_look_6 c_Ask_51 (Nat.le_of_ble_eq_true rfl) (t_Row_kindOf (by first | omega | exact hw _ | exact hx _ _ | assumption) ?_)
  refine as_AK_3 d_Ask_look_9 (by omega) (by omega) ?_
  refine j_aload_n d_Ask_look_10 rfl ?_
  refine gf_AK_0_1 f_Ask_18 d_Ask_look_11 ?_
  refine z_iconst d_Ask_look_14 ?_
  refine j_iload_n d_Ask_look_15 rfl ?_
  refine s_call1 d_Ask_look_16 c_Ask_57 (Nat.le_of_ble_eq_true rfl) (t_Row_opens (by first | omega | exact hw _ | exact hx _ _ | assumption) (fun h16 => ?_) (fun h16 => ?_))
  · refine z_if_eq (t := 26) d_Ask_look_19 (by decide) (by first | omega | exact hw _ | exact hx _ _ | assumption) (fun h => absurd h (by decide)) (fun _ => ?_)
    refine z_iconst d_Ask_look_22 ?_
    refine j_goto (t := 27) d_Ask_look_23 (by decide) ?_
    refine as_AK_3 d_Ask_look_27 (by omega) (by omega) ?_
    refine j_aload_n d_Ask_look_28 rfl ?_
    refine gf_AK_0_1 f_Ask_18 d_Ask_look_29 ?_
    refine z_iconst d_Ask_look_32 ?_
    refine j_iload_n d_Ask_look_33 rfl ?_
    refine s_call1 d_Ask_look_34 c_Ask_61 (Nat.le_of_ble_eq_true rfl) (t_Row_personOf (by first | omega | exact hw _ | exact hx _ _ | assumption) ?_)
    refine as_AK_3 d_Ask_look_37 (by omega) (by omega) ?_
    refine j_aload_n d_Ask_look_38 rfl ?_
    refine gf_AK_0_1 f_Ask_18 d_Ask_look_39 ?_
    refine z_iconst d_Ask_look_42 ?_
    refine j_iload_n d_Ask_look_43 rfl ?_
    refine as_AK_3 d_Ask_look_44 (by omega) (by omega) ?_
    refine j_aload_n d_Ask_look_45 rfl ?_
    refine gf_AK_0_1 f_Ask_18 d_Ask_look_46 ?_
    refine z_iconst d_Ask_look_49 ?_
    refine j_aload_n d_Ask_look_50 rfl ?_
    refine gf_AK_4_1 f_Ask_64 d_Ask_look_51 ?_
    refine z_iconst d_Ask_look_54 ?_
    refine al_AK_6 d_Ask_look_55 (by omega) (by omega) ?_
    refine as_AK_3 d_Ask_look_56 (by omega) (by omega) ?_
    refine j_aload_n d_Ask_look_57 rfl ?_
    refine gf_AK_0_1 f_Ask_18 d_Ask_look_58 ?_
    refine z_iconst d_Ask_look_61 ?_
    refine j_iload_n d_Ask_look_62 rfl ?_
    refine as_AK_3 d_Ask_look_63 (by omega) (by omega) ?_
    refine j_aload_n d_Ask_look_64 rfl ?_
    refine gf_AK_0_1 f_Ask_18 d_Ask_look_65 ?_
    refine z_bipush d_Ask_look_68 (by decide) ?_
    refine j_aload_n d_Ask_look_70 rfl ?_
    refine gf_AK_4_0 f_Ask_69 d_Ask_look_71 ?_
    refine gf_AK_5_1 f_Ask_73 d_Ask_look_74 ?_
    refine as_AK_3 d_Ask_look_77 (by omega) (by omega) ?_
    refine j_aload_n d_Ask_look_78 rfl ?_
    refine gf_AK_0_1 f_Ask_18 d_Ask_look_79 ?_
    refine z_bipush d_Ask_look_82 (by decide) ?_
    refine j_aload_n d_Ask_look_84 rfl ?_
    refine gf_AK_4_1 f_Ask_64 d_Ask_look_85 ?_
    refine z_iconst d_Ask_look_88 ?_
    refine al_AK_6 d_Ask_look_89 (by omega) (by omega) ?_
    refine as_AK_3 d_Ask_look_90 (by omega) (by omega) ?_
    first
    | (have hQ2 := hQ
       unfold aqW at hQ2
       rw [if_pos (show s < 3 by omega)] at hQ2
       exact j_return rfl d_Ask_look_91 hQ2)
    | (have hQ2 := hQ
       unfold aqW at hQ2
       rw [if_neg (show ¬ s < 3 by omega)] at hQ2
       exact j_return rfl d_Ask_look_91 hQ2)
  · refine z_if_eq (t := 26) d_Ask_look_19 (by decide) (by first | omega | exact hw _ | exact hx _ _ | assumption) (fun _ => ?_) (fun h => absurd h (by decide))
    refine z_iconst d_Ask_look_26 ?_
    refine as_AK_3 d_Ask_look_27 (by omega) (by omega) ?_
    refine j_aload_n d_Ask_look_28 rfl ?_
    refine gf_AK_0_1 f_Ask_18 d_Ask_look_29 ?_
    refine z_iconst d_Ask_look_32 ?_
    refine j_iload_n d_Ask_look_33 rfl ?_
    refine s_call1 d_Ask_look_34 c_Ask_61 (Nat.le_of_ble_eq_true rfl) (t_Row_personOf (by first | omega | exact hw _ | exact hx _ _ | assumption) ?_)
    refine as_AK_3 d_Ask_look_37 (by omega) (by omega) ?_
    refine j_aload_n d_Ask_look_38 rfl ?_
    refine gf_AK_0_1 f_Ask_18 d_Ask_look_39 ?_
    refine z_iconst d_Ask_look_42 ?_
    refine j_iload_n d_Ask_look_43 rfl ?_
    refine as_AK_3 d_Ask_look_44 (by omega) (by omega) ?_
    refine j_aload_n d_Ask_look_45 rfl ?_
    refine gf_AK_0_1 f_Ask_18 d_Ask_look_46 ?_
    refine z_iconst d_Ask_look_49 ?_
    refine j_aload_n d_Ask_look_50 rfl ?_
    refine gf_AK_4_1 f_Ask_64 d_Ask_look_51 ?_
    refine z_iconst d_Ask_look_54 ?_
    refine al_AK_6 d_Ask_look_55 (by omega) (by omega) ?_
    refine as_AK_3 d_Ask_look_56 (by omega) (by omega) ?_
    refine j_aload_n d_Ask_look_57 rfl ?_
    refine gf_AK_0_1 f_Ask_18 d_Ask_look_58 ?_
    refine z_iconst d_Ask_look_61 ?_
    refine j_iload_n d_Ask_look_62 rfl ?_
    refine as_AK_3 d_Ask_look_63 (by omega) (by omega) ?_
    refine j_aload_n d_Ask_look_64 rfl ?_
    refine gf_AK_0_1 f_Ask_18 d_Ask_look_65 ?_
    refine z_bipush d_Ask_look_68 (by decide) ?_
    refine j_aload_n d_Ask_look_70 rfl ?_
    refine gf_AK_4_0 f_Ask_69 d_Ask_look_71 ?_
    refine gf_AK_5_1 f_Ask_73 d_Ask_look_74 ?_
    refine as_AK_3 d_Ask_look_77 (by omega) (by omega) ?_
    refine j_aload_n d_Ask_look_78 rfl ?_
    refine gf_AK_0_1 f_Ask_18 d_Ask_look_79 ?_
    refine z_bipush d_Ask_look_82 (by decide) ?_
    refine j_aload_n d_Ask_look_84 rfl ?_
    refine gf_AK_4_1 f_Ask_64 d_Ask_look_85 ?_
    refine z_iconst d_Ask_look_88 ?_
    refine al_AK_6 d_Ask_look_89 (by omega) (by omega) ?_
    refine as_AK_3 d_Ask_look_90 (by omega) (by omega) ?_
    first
    | (have hQ2 := hQ
       unfold aqW at hQ2
       rw [if_pos (show s < 3 by omega)] at hQ2
       exact j_return rfl d_Ask_look_91 hQ2)
    | (have hQ2 := hQ
       unfold aqW at hQ2
       rw [if_neg (show ¬ s < 3 by omega)] at hQ2
       exact j_return rfl d_Ask_look_91 hQ2)
theorem t_Ask_holds {g : Bool} {d : Nat} {Q : List xM → Option Value → Prop} {td br lc fo rn rl rp tc sz : Int} {sk wd tm kn ff sc ts mm st vl : Int → Int} {CL SL : Nat} (z0_ : 0 ≤ sz) (z1_ : sz ≤ (SL : Int)) (z2_ : SL ≤ 1000) (hst : ∀ j, 0 ≤ j → j < sz → 0 ≤ st j ∧ st j ≤ 400) (c0_ : 0 ≤ tc) (c1_ : tc ≤ (CL : Int)) (c2_ : CL ≤ 100) {tv fv fb : Int → Int} (hev : EvT ts ff st vl wd sz tv fv fb tc) {c : Int} (e0 : 0 ≤ c) (e1 : c < tc) (ht : hlP ts ff tv fb c → ∀ tdz brz skz, (ff c ≠ -1 → tdz = fv c) → Q (W_AK tdz brz lc fo rn rl rp tc sz skz wd tm kn ff sc ts mm st vl CL SL) (some (.int (ii 1)))) (hf : ¬ hlP ts ff tv fb c → ∀ tdz brz skz, Q (W_AK tdz brz lc fo rn rl rp tc sz skz wd tm kn ff sc ts mm st vl CL SL) (some (.int (ii 0)))) : CT g m_Ask_holds (d + 2) [.ref 0, .ref 7, .int (ii c)] (W_AK td br lc fo rn rl rp tc sz sk wd tm kn ff sc ts mm st vl CL SL) 0 0 Q := by
  refine CT.of (by decide) (Nat.le_of_ble_eq_true rfl) ?_
  show SJ _ _ _ _ [some (.ref 0), some (.ref 7), some (.int (ii c))] [] _ _ _ _
  obtain ⟨hv1, hv2⟩ := hev c e0 e1
  have hw1 : ts c = -1 ∨ (0 ≤ ts c ∧ ts c ≤ sz ∧ rgo (tv c)) := by rcases hv1 with z | ⟨z1, z2, z3, -⟩; exact Or.inl z; exact Or.inr ⟨z1, z2, z3⟩
  have hw2 : ff c = -1 ∨ (0 ≤ ff c ∧ ff c ≤ sz ∧ rgo (fv c) ∧ b01 (fb c)) := by rcases hv2 with z | ⟨z1, z2, z3, z4, -⟩; exact Or.inl z; exact Or.inr ⟨z1, z2, z3, z4⟩
  change Hd _ at hv1 hv2
  refine j_aload_n d_Ask_holds_0 rfl ?_
  refine gf_AK_7_3 f_Ask_76 d_Ask_holds_1 ?_
  refine j_iload_n d_Ask_holds_4 rfl ?_
  refine al_AK_11 d_Ask_holds_5 (by omega) (by omega) (by omega) ?_
  refine z_iconst d_Ask_holds_6 ?_
  refine z_icmp_eq (t := 33) d_Ask_holds_7 (by decide) (by first | omega | exact hw _ | exact hx _ _ | assumption) (by first | omega | exact hw _ | exact hx _ _ | assumption) (fun h7 => ?_) (fun h7 => ?_)
  · refine j_aload_n d_Ask_holds_33 rfl ?_
    refine gf_AK_7_1 f_Ask_83 d_Ask_holds_34 ?_
    refine j_iload_n d_Ask_holds_37 rfl ?_
    refine al_AK_9 d_Ask_holds_38 (by omega) (by omega) (by omega) ?_
    refine z_iconst d_Ask_holds_39 ?_
    refine z_icmp_ne (t := 45) d_Ask_holds_40 (by decide) (by first | omega | exact hw _ | exact hx _ _ | assumption) (by first | omega | exact hw _ | exact hx _ _ | assumption) (fun h40 => ?_) (fun h40 => ?_)
    · obtain ⟨z1q, z2q, z3q, z4q, hm2⟩ := (Hd.out hv2).resolve_left (by omega)
      change Hd _ at hm2
      refine j_aload_n d_Ask_holds_45 rfl ?_
      refine j_aload_n d_Ask_holds_46 rfl ?_
      refine gf_AK_0_0 f_Ask_12 d_Ask_holds_47 ?_
      refine j_aload_n d_Ask_holds_50 rfl ?_
      refine j_aload_n d_Ask_holds_51 rfl ?_
      refine gf_AK_7_1 f_Ask_83 d_Ask_holds_52 ?_
      refine j_iload_n d_Ask_holds_55 rfl ?_
      refine al_AK_9 d_Ask_holds_56 (by omega) (by omega) (by omega) ?_
      refine j_aload_n d_Ask_holds_57 rfl ?_
      refine gf_AK_0_1 f_Ask_18 d_Ask_holds_58 ?_
      refine v_call3 d_Ask_holds_61 c_Ask_79 rfl ⟨_, rfl, rfl⟩ (Nat.le_of_ble_eq_true rfl) (E_AK_SM (fun Q2 kz => t_Sum_of z0_ z1_ z2_ hst (by omega) (by omega) (Hd.out hm2 _) (fun skz => kz _ _ _ _ _ _ _ _ rfl ?_)) rfl)
      refine pf_AK_0_2 f_Ask_22 d_Ask_holds_64 ?_
      refine j_aload_n d_Ask_holds_67 rfl ?_
      refine gf_AK_0_0 f_Ask_12 d_Ask_holds_68 ?_
      refine gf_AK_1_0 f_Ask_86 d_Ask_holds_71 ?_
      refine z_if_ne (t := 81) d_Ask_holds_74 (by decide) (by first | omega | exact hw _ | exact hx _ _ | assumption) (fun h74 => ?_) (fun h74 => ?_)
      · refine z_iconst d_Ask_holds_81 ?_
        exact z_zreturn rfl (Or.inl rfl) d_Ask_holds_82 (hf (by omega) _ _ _)
      · refine z_iconst d_Ask_holds_77 ?_
        refine j_goto (t := 82) d_Ask_holds_78 (by decide) ?_
        exact z_zreturn rfl (Or.inr rfl) d_Ask_holds_82 (ht (by constructor <;> omega) _ _ _ (fun q => rfl))
    · refine z_iconst d_Ask_holds_43 ?_
      exact z_zreturn rfl (Or.inr rfl) d_Ask_holds_44 (ht (by constructor <;> omega) _ _ _ (fun q => absurd (by omega) q))
  · obtain ⟨z1, z2, z3, bt_, hm1⟩ := (Hd.out hv1).resolve_left (by omega)
    change Hd _ at hm1
    refine j_aload_n d_Ask_holds_10 rfl ?_
    refine gf_AK_0_0 f_Ask_12 d_Ask_holds_11 ?_
    refine j_aload_n d_Ask_holds_14 rfl ?_
    refine j_aload_n d_Ask_holds_15 rfl ?_
    refine gf_AK_7_3 f_Ask_76 d_Ask_holds_16 ?_
    refine j_iload_n d_Ask_holds_19 rfl ?_
    refine al_AK_11 d_Ask_holds_20 (by omega) (by omega) (by omega) ?_
    refine j_aload_n d_Ask_holds_21 rfl ?_
    refine gf_AK_0_1 f_Ask_18 d_Ask_holds_22 ?_
    refine v_call3 d_Ask_holds_25 c_Ask_79 rfl ⟨_, rfl, rfl⟩ (Nat.le_of_ble_eq_true rfl) (E_AK_SM (fun Q2 kz => t_Sum_of z0_ z1_ z2_ hst (by omega) (by omega) (Hd.out hm1 _) (fun skz => kz _ _ _ _ _ _ _ _ rfl ?_)) rfl)
    refine z_if_ne (t := 33) d_Ask_holds_28 (by decide) (by first | omega | exact hw _ | exact hx _ _ | assumption) (fun h28 => ?_) (fun h28 => ?_)
    · refine j_aload_n d_Ask_holds_33 rfl ?_
      refine gf_AK_7_1 f_Ask_83 d_Ask_holds_34 ?_
      refine j_iload_n d_Ask_holds_37 rfl ?_
      refine al_AK_9 d_Ask_holds_38 (by omega) (by omega) (by omega) ?_
      refine z_iconst d_Ask_holds_39 ?_
      refine z_icmp_ne (t := 45) d_Ask_holds_40 (by decide) (by first | omega | exact hw _ | exact hx _ _ | assumption) (by first | omega | exact hw _ | exact hx _ _ | assumption) (fun h40 => ?_) (fun h40 => ?_)
      · obtain ⟨z1q, z2q, z3q, z4q, hm2⟩ := (Hd.out hv2).resolve_left (by omega)
        change Hd _ at hm2
        refine j_aload_n d_Ask_holds_45 rfl ?_
        refine j_aload_n d_Ask_holds_46 rfl ?_
        refine gf_AK_0_0 f_Ask_12 d_Ask_holds_47 ?_
        refine j_aload_n d_Ask_holds_50 rfl ?_
        refine j_aload_n d_Ask_holds_51 rfl ?_
        refine gf_AK_7_1 f_Ask_83 d_Ask_holds_52 ?_
        refine j_iload_n d_Ask_holds_55 rfl ?_
        refine al_AK_9 d_Ask_holds_56 (by omega) (by omega) (by omega) ?_
        refine j_aload_n d_Ask_holds_57 rfl ?_
        refine gf_AK_0_1 f_Ask_18 d_Ask_holds_58 ?_
        refine v_call3 d_Ask_holds_61 c_Ask_79 rfl ⟨_, rfl, rfl⟩ (Nat.le_of_ble_eq_true rfl) (E_AK_SM (fun Q2 kz => t_Sum_of z0_ z1_ z2_ hst (by omega) (by omega) (Hd.out hm2 _) (fun skz => kz _ _ _ _ _ _ _ _ rfl ?_)) rfl)
        refine pf_AK_0_2 f_Ask_22 d_Ask_holds_64 ?_
        refine j_aload_n d_Ask_holds_67 rfl ?_
        refine gf_AK_0_0 f_Ask_12 d_Ask_holds_68 ?_
        refine gf_AK_1_0 f_Ask_86 d_Ask_holds_71 ?_
        refine z_if_ne (t := 81) d_Ask_holds_74 (by decide) (by first | omega | exact hw _ | exact hx _ _ | assumption) (fun h74 => ?_) (fun h74 => ?_)
        · refine z_iconst d_Ask_holds_81 ?_
          exact z_zreturn rfl (Or.inl rfl) d_Ask_holds_82 (hf (by omega) _ _ _)
        · refine z_iconst d_Ask_holds_77 ?_
          refine j_goto (t := 82) d_Ask_holds_78 (by decide) ?_
          exact z_zreturn rfl (Or.inr rfl) d_Ask_holds_82 (ht (by constructor <;> omega) _ _ _ (fun q => rfl))
      · refine z_iconst d_Ask_holds_43 ?_
        exact z_zreturn rfl (Or.inr rfl) d_Ask_holds_44 (ht (by constructor <;> omega) _ _ _ (fun q => absurd (by omega) q))
    · refine z_iconst d_Ask_holds_31 ?_
      exact z_zreturn rfl (Or.inl rfl) d_Ask_holds_32 (hf (by omega) _ _ _)
theorem lp_amount {g : Bool} {d : Nat} {Q : List xM → Option Value → Prop} {lc fo rn rl rp tc sz : Int} {wd tm kn ff sc ts mm st vl : Int → Int} {CL SL : Nat} (z0_ : 0 ≤ sz) (z1_ : sz ≤ (SL : Int)) (z2_ : SL ≤ 1000) (hst : ∀ j, 0 ≤ j → j < sz → 0 ≤ st j ∧ st j ≤ 400) (c0_ : 0 ≤ tc) (c1_ : tc ≤ (CL : Int)) (c2_ : CL ≤ 100) {tv fv fb : Int → Int} (hev : EvT ts ff st vl wd sz tv fv fb tc) (hkn : ∀ c, 0 ≤ c → c < tc → R32 (kn c)) {what s p : Int} (rw_ : R32 what) (hff : ∀ c, 0 ≤ c → c < tc → kn c = what → ff c ≠ -1 ∧ rgo (fv c)) {v : Int} (hQ : ∀ tdz brz skz, Q (W_AK tdz brz lc fo rn rl rp tc sz skz wd tm kn ff sc ts mm st vl CL SL) (some (.int (ii v)))) : ∀ (nn : Nat) (n : Nat) (td : Int) (br : Int) (sk : Int → Int), ((n : Int)).toNat = nn → (n : Int) ≤ tc → amF kn ts ff tv fv fb what n = v → SJ g m_Ask_amount (d + 3) 23 [some (.ref 0), some (.ref 4), some (.ref 7), some (.int (ii what)), some (.int (ii s)), some (.int (ii p)), some (.int (ii ((n : Int) - 1)))] [] (W_AK td br lc fo rn rl rp tc sz sk wd tm kn ff sc ts mm st vl CL SL) 0 0 Q := by
  intro nn
  induction nn using Nat.strongRecOn with
  | ind nn ih =>
  intro n td br sk hn n1 hR
  refine j_iload d_Ask_amount_23 rfl ?_
  refine z_if_lt (t := 69) d_Ask_amount_25 (by decide) (by first | omega | exact hw _ | exact hx _ _ | assumption) (fun h25 => ?_) (fun h25 => ?_)
  · have hn0_ : n = 0 := by omega
    subst hn0_
    have hR2 : (1 : Int) = v := hR
    subst hR2
    refine z_iconst d_Ask_amount_69 ?_
    exact z_iret rfl d_Ask_amount_70 rfl (hQ _ _ _)
  · obtain ⟨n, rfl⟩ : ∃ j, n = j + 1 := ⟨n - 1, by omega⟩
    simp only [amF] at hR
    rw [show ((n + 1 : Nat) : Int) - 1 = (n : Int) by omega]
    have hk1 := hkn n (by omega) (by omega)
    refine j_aload_n d_Ask_amount_28 rfl ?_
    refine gf_AK_7_0 f_Ask_35 d_Ask_amount_29 ?_
    refine j_iload d_Ask_amount_32 rfl ?_
    refine al_AK_8 d_Ask_amount_34 (by omega) (by omega) (by omega) ?_
    refine j_iload_n d_Ask_amount_35 rfl ?_
    refine z_icmp_ne (t := 63) d_Ask_amount_36 (by decide) (by first | omega | exact hw _ | exact hx _ _ | assumption) (by first | omega | exact hw _ | exact hx _ _ | assumption) (fun h36 => ?_) (fun h36 => ?_)
    · refine z_iinc d_Ask_amount_63 rfl (by decide) ?_
      show SJ _ _ _ _ [_, _, _, _, _, _, _] _ _ _ _ _
      refine j_goto (t := 23) d_Ask_amount_66 (by decide) ?_
      first
      | (rw [if_neg (fun z => hho z.2)] at hR
         rw [show (n : Int) + -1 = (n : Int) - 1 by omega]
         exact ih _ (by omega) _ _ _ _ rfl (by omega) hR)
      | (rw [if_neg (by omega)] at hR
         rw [show (n : Int) + -1 = (n : Int) - 1 by omega]
         exact ih _ (by omega) _ _ _ _ rfl (by omega) hR)
    · have hff1 := hff n (by omega) (by omega) (by omega)
      refine j_aload_n d_Ask_amount_39 rfl ?_
      refine j_aload_n d_Ask_amount_40 rfl ?_
      refine j_iload d_Ask_amount_41 rfl ?_
      refine v_call2 d_Ask_amount_43 c_Ask_38 rfl ⟨_, rfl, rfl⟩ (Nat.le_of_ble_eq_true rfl) (t_Ask_holds z0_ z1_ z2_ hst c0_ c1_ c2_ hev (by omega) (by omega) (fun hho tdz brz skz hto => ?_) (fun hho tdz brz skz => ?_))
      · refine z_if_eq (t := 63) d_Ask_amount_46 (by decide) (by first | omega | exact hw _ | exact hx _ _ | assumption) (fun h => absurd h (by decide)) (fun _ => ?_)
        rw [if_pos ⟨by omega, hho⟩] at hR
        rw [hto hff1.1]
        subst hR
        refine z_iconst d_Ask_amount_49 ?_
        refine z_bipush d_Ask_amount_50 (by decide) ?_
        refine j_aload_n d_Ask_amount_52 rfl ?_
        refine gf_AK_0_2 f_Ask_22 d_Ask_amount_53 ?_
        refine z_min d_Ask_amount_56 mm_Ask_42 (Nat.le_of_ble_eq_true rfl) (by first | omega | exact hw _ | exact hx _ _ | assumption) (by first | omega | exact hw _ | exact hx _ _ | assumption) ?_
        refine z_max d_Ask_amount_59 mm_Ask_48 (Nat.le_of_ble_eq_true rfl) (by first | omega | exact hw _ | exact hx _ _ | assumption) (by first | omega | exact hw _ | exact hx _ _ | assumption) ?_
        exact z_iret rfl d_Ask_amount_62 rfl (hQ _ _ _)
      · refine z_if_eq (t := 63) d_Ask_amount_46 (by decide) (by first | omega | exact hw _ | exact hx _ _ | assumption) (fun _ => ?_) (fun h => absurd h (by decide))
        refine z_iinc d_Ask_amount_63 rfl (by decide) ?_
        show SJ _ _ _ _ [_, _, _, _, _, _, _] _ _ _ _ _
        refine j_goto (t := 23) d_Ask_amount_66 (by decide) ?_
        first
        | (rw [if_neg (fun z => hho z.2)] at hR
           rw [show (n : Int) + -1 = (n : Int) - 1 by omega]
           exact ih _ (by omega) _ _ _ _ rfl (by omega) hR)
        | (rw [if_neg (by omega)] at hR
           rw [show (n : Int) + -1 = (n : Int) - 1 by omega]
           exact ih _ (by omega) _ _ _ _ rfl (by omega) hR)
theorem t_Ask_amount {g : Bool} {d : Nat} {Q : List xM → Option Value → Prop} {td br lc fo rn rl rp tc sz : Int} {sk wd tm kn ff sc ts mm st vl : Int → Int} {CL SL : Nat} (z0_ : 0 ≤ sz) (z1_ : sz ≤ (SL : Int)) (z2_ : SL ≤ 1000) (hst : ∀ j, 0 ≤ j → j < sz → 0 ≤ st j ∧ st j ≤ 400) (c0_ : 0 ≤ tc) (c1_ : tc ≤ (CL : Int)) (c2_ : CL ≤ 100) {tv fv fb : Int → Int} {what s p : Int} (r1 : R32 s) (rw_ : R32 what) (hev : EvT ts ff st vl (aqW wd s p rn (tm 2) (tm 0)) sz tv fv fb tc) (hkn : ∀ c, 0 ≤ c → c < tc → R32 (kn c)) (hff : ∀ c, 0 ≤ c → c < tc → kn c = what → ff c ≠ -1 ∧ rgo (fv c)) (hQ : ∀ tdz brz skz, Q (W_AK tdz brz lc fo rn rl rp tc sz skz (aqW wd s p rn (tm 2) (tm 0)) tm kn ff sc ts mm st vl CL SL) (some (.int (ii (amF kn ts ff tv fv fb what tc.toNat))))) : CT g m_Ask_amount (d + 3) [.ref 0, .ref 4, .ref 7, .int (ii what), .int (ii s), .int (ii p)] (W_AK td br lc fo rn rl rp tc sz sk wd tm kn ff sc ts mm st vl CL SL) 0 0 Q := by
  refine CT.of (by decide) (Nat.le_of_ble_eq_true rfl) ?_
  show SJ _ _ _ _ [some (.ref 0), some (.ref 4), some (.ref 7), some (.int (ii what)), some (.int (ii s)), some (.int (ii p)), none] [] _ _ _ _
  refine j_aload_n d_Ask_amount_0 rfl ?_
  refine j_nonnull (t := 6) d_Ask_amount_1 (by decide) ?_
  refine j_aload_n d_Ask_amount_6 rfl ?_
  refine j_aload_n d_Ask_amount_7 rfl ?_
  refine j_iload d_Ask_amount_8 rfl ?_
  refine j_iload d_Ask_amount_10 rfl ?_
  refine v_call3 d_Ask_amount_12 c_Ask_26 rfl ⟨_, rfl, rfl⟩ (Nat.le_of_ble_eq_true rfl) (t_Ask_look r1 ?_)
  refine j_aload_n d_Ask_amount_15 rfl ?_
  refine gf_AK_7_7 f_Ask_30 d_Ask_amount_16 ?_
  refine z_iconst d_Ask_amount_19 ?_
  refine z_isub d_Ask_amount_20 ?_
  refine j_istore d_Ask_amount_21 (by decide) ?_
  show SJ _ _ _ _ [_, _, _, _, _, _, _] _ _ _ _ _
  rw [show tc - 1 = ((tc.toNat : Nat) : Int) - 1 by omega]
  exact lp_amount z0_ z1_ z2_ hst c0_ c1_ c2_ hev hkn rw_ hff hQ _ tc.toNat _ _ _ rfl (by omega) rfl
theorem n_Ask_amount {g : Bool} {d : Nat} {Q : List xM → Option Value → Prop} {mem : List xM} {a b : Nat} {what s p : Int} (hQ : Q mem (some (.int (ii 1)))) : CT g m_Ask_amount (d + 3) [.ref a, .ref b, .null, .int (ii what), .int (ii s), .int (ii p)] mem 0 0 Q := by
  refine CT.of (by decide) (Nat.le_of_ble_eq_true rfl) ?_
  show SJ _ _ _ _ [some (.ref a), some (.ref b), some (.null), some (.int (ii what)), some (.int (ii s)), some (.int (ii p)), none] [] _ _ _ _
  refine j_aload_nN d_Ask_amount_0 rfl ?_
  refine j_nonnullN d_Ask_amount_1 ?_
  refine z_iconst d_Ask_amount_4 ?_
  exact z_iret rfl d_Ask_amount_5 (by first | rfl | omega | simp_all) hQ
theorem lp_isBarred {g : Bool} {d : Nat} {Q : List xM → Option Value → Prop} {lc fo rn rl rp tc sz : Int} {wd tm kn ff sc ts mm st vl : Int → Int} {CL SL : Nat} (z0_ : 0 ≤ sz) (z1_ : sz ≤ (SL : Int)) (z2_ : SL ≤ 1000) (hst : ∀ j, 0 ≤ j → j < sz → 0 ≤ st j ∧ st j ≤ 400) (c0_ : 0 ≤ tc) (c1_ : tc ≤ (CL : Int)) (c2_ : CL ≤ 100) {tv fv fb : Int → Int} (hev : EvT ts ff st vl wd sz tv fv fb tc) (hkn : ∀ c, 0 ≤ c → c < tc → R32 (kn c)) {s p : Int} (ht : (∃ c, 0 ≤ c ∧ c < tc ∧ kn c = 3 ∧ hlP ts ff tv fb c) → ∀ tdz brz skz, Q (W_AK tdz brz lc fo rn rl rp tc sz skz wd tm kn ff sc ts mm st vl CL SL) (some (.int (ii 1)))) (hf : ¬ (∃ c, 0 ≤ c ∧ c < tc ∧ kn c = 3 ∧ hlP ts ff tv fb c) → ∀ tdz brz skz, Q (W_AK tdz brz lc fo rn rl rp tc sz skz wd tm kn ff sc ts mm st vl CL SL) (some (.int (ii 0)))) : ∀ (nn : Nat) (c : Int) (td : Int) (br : Int) (sk : Int → Int), (tc - c).toNat = nn → 0 ≤ c → c ≤ tc → Hd (∀ j, 0 ≤ j → j < c → ¬ (kn j = 3 ∧ hlP ts ff tv fb j)) → SJ g m_Ask_isBarred (d + 3) 17 [some (.ref 0), some (.ref 4), some (.ref 7), some (.int (ii s)), some (.int (ii p)), some (.int (ii c))] [] (W_AK td br lc fo rn rl rp tc sz sk wd tm kn ff sc ts mm st vl CL SL) 0 0 Q := by
  intro nn
  induction nn using Nat.strongRecOn with
  | ind nn ih =>
  intro c td br sk hn n0 n1 hno
  refine j_iload d_Ask_isBarred_17 rfl ?_
  refine j_aload_n d_Ask_isBarred_19 rfl ?_
  refine gf_AK_7_7 f_Ask_30 d_Ask_isBarred_20 ?_
  refine z_icmp_ge (t := 55) d_Ask_isBarred_23 (by decide) (by first | omega | exact hw _ | exact hx _ _ | assumption) (by first | omega | exact hw _ | exact hx _ _ | assumption) (fun h23 => ?_) (fun h23 => ?_)
  · refine z_iconst d_Ask_isBarred_55 ?_
    exact z_zreturn rfl (Or.inl rfl) d_Ask_isBarred_56 (hf (fun ⟨j, j0, j1, z⟩ => Hd.out hno j j0 (by omega) z) _ _ _)
  · have hk1 := hkn c (by omega) (by omega)
    refine j_aload_n d_Ask_isBarred_26 rfl ?_
    refine gf_AK_7_0 f_Ask_35 d_Ask_isBarred_27 ?_
    refine j_iload d_Ask_isBarred_30 rfl ?_
    refine al_AK_8 d_Ask_isBarred_32 (by omega) (by omega) (by omega) ?_
    refine z_iconst d_Ask_isBarred_33 ?_
    refine z_icmp_ne (t := 49) d_Ask_isBarred_34 (by decide) (by first | omega | exact hw _ | exact hx _ _ | assumption) (by first | omega | exact hw _ | exact hx _ _ | assumption) (fun h34 => ?_) (fun h34 => ?_)
    · refine z_iinc d_Ask_isBarred_49 rfl (by decide) ?_
      show SJ _ _ _ _ [_, _, _, _, _, _] _ _ _ _ _
      refine j_goto (t := 17) d_Ask_isBarred_52 (by decide) ?_
      refine ih _ (by omega) _ _ _ _ rfl (by omega) (by omega) (fun j j0 j1 z => ?_)
      by_cases e : j = c
      · subst e
        first
        | exact hho z.2
        | exact absurd z.1 (by omega)
      · exact Hd.out hno j j0 (by omega) z
    · refine j_aload_n d_Ask_isBarred_37 rfl ?_
      refine j_aload_n d_Ask_isBarred_38 rfl ?_
      refine j_iload d_Ask_isBarred_39 rfl ?_
      refine v_call2 d_Ask_isBarred_41 c_Ask_38 rfl ⟨_, rfl, rfl⟩ (Nat.le_of_ble_eq_true rfl) (t_Ask_holds z0_ z1_ z2_ hst c0_ c1_ c2_ hev (by omega) (by omega) (fun hho tdz brz skz hto => ?_) (fun hho tdz brz skz => ?_))
      · refine z_if_eq (t := 49) d_Ask_isBarred_44 (by decide) (by first | omega | exact hw _ | exact hx _ _ | assumption) (fun h => absurd h (by decide)) (fun _ => ?_)
        refine z_iconst d_Ask_isBarred_47 ?_
        exact z_zreturn rfl (Or.inr rfl) d_Ask_isBarred_48 (ht ⟨c, by omega, by omega, by omega, hho⟩ _ _ _)
      · refine z_if_eq (t := 49) d_Ask_isBarred_44 (by decide) (by first | omega | exact hw _ | exact hx _ _ | assumption) (fun _ => ?_) (fun h => absurd h (by decide))
        refine z_iinc d_Ask_isBarred_49 rfl (by decide) ?_
        show SJ _ _ _ _ [_, _, _, _, _, _] _ _ _ _ _
        refine j_goto (t := 17) d_Ask_isBarred_52 (by decide) ?_
        refine ih _ (by omega) _ _ _ _ rfl (by omega) (by omega) (fun j j0 j1 z => ?_)
        by_cases e : j = c
        · subst e
          first
          | exact hho z.2
          | exact absurd z.1 (by omega)
        · exact Hd.out hno j j0 (by omega) z
theorem t_Ask_isBarred {g : Bool} {d : Nat} {Q : List xM → Option Value → Prop} {td br lc fo rn rl rp tc sz : Int} {sk wd tm kn ff sc ts mm st vl : Int → Int} {CL SL : Nat} (z0_ : 0 ≤ sz) (z1_ : sz ≤ (SL : Int)) (z2_ : SL ≤ 1000) (hst : ∀ j, 0 ≤ j → j < sz → 0 ≤ st j ∧ st j ≤ 400) (c0_ : 0 ≤ tc) (c1_ : tc ≤ (CL : Int)) (c2_ : CL ≤ 100) {tv fv fb : Int → Int} {s p : Int} (r1 : R32 s) (hev : EvT ts ff st vl (aqW wd s p rn (tm 2) (tm 0)) sz tv fv fb tc) (hkn : ∀ c, 0 ≤ c → c < tc → R32 (kn c)) (ht : (∃ c, 0 ≤ c ∧ c < tc ∧ kn c = 3 ∧ hlP ts ff tv fb c) → ∀ tdz brz skz, Q (W_AK tdz brz lc fo rn rl rp tc sz skz (aqW wd s p rn (tm 2) (tm 0)) tm kn ff sc ts mm st vl CL SL) (some (.int (ii 1)))) (hf : ¬ (∃ c, 0 ≤ c ∧ c < tc ∧ kn c = 3 ∧ hlP ts ff tv fb c) → ∀ tdz brz skz, Q (W_AK tdz brz lc fo rn rl rp tc sz skz (aqW wd s p rn (tm 2) (tm 0)) tm kn ff sc ts mm st vl CL SL) (some (.int (ii 0)))) : CT g m_Ask_isBarred (d + 3) [.ref 0, .ref 4, .ref 7, .int (ii s), .int (ii p)] (W_AK td br lc fo rn rl rp tc sz sk wd tm kn ff sc ts mm st vl CL SL) 0 0 Q := by
  refine CT.of (by decide) (Nat.le_of_ble_eq_true rfl) ?_
  show SJ _ _ _ _ [some (.ref 0), some (.ref 4), some (.ref 7), some (.int (ii s)), some (.int (ii p)), none] [] _ _ _ _
  refine j_aload_n d_Ask_isBarred_0 rfl ?_
  refine j_nonnull (t := 6) d_Ask_isBarred_1 (by decide) ?_
  refine j_aload_n d_Ask_isBarred_6 rfl ?_
  refine j_aload_n d_Ask_isBarred_7 rfl ?_
  refine j_iload_n d_Ask_isBarred_8 rfl ?_
  refine j_iload d_Ask_isBarred_9 rfl ?_
  refine v_call3 d_Ask_isBarred_11 c_Ask_26 rfl ⟨_, rfl, rfl⟩ (Nat.le_of_ble_eq_true rfl) (t_Ask_look r1 ?_)
  refine z_iconst d_Ask_isBarred_14 ?_
  refine j_istore d_Ask_isBarred_15 (by decide) ?_
  show SJ _ _ _ _ [_, _, _, _, _, _] _ _ _ _ _
  exact lp_isBarred z0_ z1_ z2_ hst c0_ c1_ c2_ hev hkn ht hf _ 0 _ _ _ rfl (by omega) (by omega) (fun j j0 j1 => by omega)
theorem n_Ask_isBarred {g : Bool} {d : Nat} {Q : List xM → Option Value → Prop} {mem : List xM} {a b : Nat} {s p : Int} (hQ : Q mem (some (.int (ii 0)))) : CT g m_Ask_isBarred (d + 3) [.ref a, .ref b, .null, .int (ii s), .int (ii p)] mem 0 0 Q := by
  refine CT.of (by decide) (Nat.le_of_ble_eq_true rfl) ?_
  show SJ _ _ _ _ [some (.ref a), some (.ref b), some (.null), some (.int (ii s)), some (.int (ii p)), none] [] _ _ _ _
  refine j_aload_nN d_Ask_isBarred_0 rfl ?_
  refine j_nonnullN d_Ask_isBarred_1 ?_
  refine z_iconst d_Ask_isBarred_4 ?_
  exact z_zreturn rfl (Or.inl rfl) d_Ask_isBarred_5 hQ
