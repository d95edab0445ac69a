/-! tables of whole numbers -/
def tblI (n len : Nat) (w : Int → Int → Int) : List xM := (List.range n).map (fun (k : Nat) => .inl (0, len, .inl (ia (w (k : Int)))))
theorem tblI_len {n len : Nat} {w : Int → Int → Int} : (tblI n len w).length = n := by
  unfold tblI
  rw [List.length_map, List.length_range]
theorem tblI_at {cs T : List xM} {n len b : Nat} {w : Int → Int → Int} {a : Int} (hb : cs.length = b) (h0 : 0 ≤ a) (h1 : a < n) : (cs ++ (tblI n len w ++ T))[b + a.toNat]? = some (.inl (0, len, .inl (ia (w a)))) := by
  rw [List.getElem?_append_right (by omega), show b + a.toNat - cs.length = a.toNat by omega, List.getElem?_append_left (by rw [tblI_len]; omega)]
  unfold tblI
  rw [List.getElem?_map, List.getElem?_range (by omega)]
  show some (Sum.inl (0, len, Sum.inl (ia (w ((a.toNat : Nat) : Int))))) = _
  rw [Int.toNat_of_nonneg h0]
theorem tblI_set {cs T : List xM} {n len b : Nat} {w : Int → Int → Int} {a : Int} {x : Int → Int} (hb : cs.length = b) (h0 : 0 ≤ a) (h1 : a < n) : (cs ++ (tblI n len w ++ T)).set (b + a.toNat) (.inl (0, len, .inl (ia x))) = cs ++ (tblI n len (upR w a x) ++ T) := by
  apply List.ext_getElem?
  intro i
  by_cases c : i = b + a.toNat
  · subst c
    rw [tblI_at hb h0 h1, upR_eq, List.getElem?_set_self]
    rw [List.length_append, List.length_append, tblI_len]
    omega
  · rw [List.getElem?_set_ne (Ne.symm c)]
    by_cases c2 : i < cs.length
    · rw [List.getElem?_append_left c2, List.getElem?_append_left c2]
    · have e : ∀ W : List xM, (cs ++ W)[i]? = W[i - cs.length]? := fun W => List.getElem?_append_right (by omega)
      rw [e, e]
      by_cases c3 : i - cs.length < n
      · have e2 : ∀ w : Int → Int → Int, (tblI n len w ++ T)[i - cs.length]? = (tblI n len w)[i - cs.length]? := fun w => List.getElem?_append_left (by rw [tblI_len]; exact c3)
        rw [e2, e2]
        unfold tblI
        rw [List.getElem?_map, List.getElem?_map, List.getElem?_range c3]
        show some (Sum.inl (0, len, Sum.inl (ia (w ((i - cs.length : Nat) : Int))))) = some (Sum.inl (0, len, Sum.inl (ia (upR w a x ((i - cs.length : Nat) : Int)))))
        rw [upR_ne (by omega)]
      · have e2 : ∀ w : Int → Int → Int, (tblI n len w ++ T)[i - cs.length]? = T[i - cs.length - n]? := fun w => by
          rw [List.getElem?_append_right (by rw [tblI_len]; omega), tblI_len]
        rw [e2, e2]
theorem tblI_at2 {cs T : List xM} {n len n2 len2 b : Nat} {w w2 : Int → Int → Int} {a : Int} (hb : cs.length + n = b) (h0 : 0 ≤ a) (h1 : a < n2) : (cs ++ (tblI n len w ++ (tblI n2 len2 w2 ++ T)))[b + a.toNat]? = some (.inl (0, len2, .inl (ia (w2 a)))) := by
  rw [← List.append_assoc]
  exact tblI_at (by rw [List.length_append, tblI_len]; exact hb) h0 h1
theorem tblI_set2 {cs T : List xM} {n len n2 len2 b : Nat} {w w2 : Int → Int → Int} {a : Int} {x : Int → Int} (hb : cs.length + n = b) (h0 : 0 ≤ a) (h1 : a < n2) : (cs ++ (tblI n len w ++ (tblI n2 len2 w2 ++ T))).set (b + a.toNat) (.inl (0, len2, .inl (ia x))) = cs ++ (tblI n len w ++ (tblI n2 len2 (upR w2 a x) ++ T)) := by
  rw [← List.append_assoc, ← List.append_assoc cs]
  exact tblI_set (by rw [List.length_append, tblI_len]; exact hb) h0 h1
def W_PX (pq0 : Int) (pq1 : Int) (pq2 : Int) (pq3 : Int) (pq4 : Int) (pq5 : Int) (pq6 : Int) (pq7 : Int) (pq8 : Int) (pq9 : Int) (lc : Int) (fo : Int) (rn : Int) (rl : Int) (rp : Int) (td : Int) (br : Int) (yn : Int) (yl : Int) (yp : Int) (xk : Int → Int) (sq : Int → Int) (oq : Int → Int) (rs : Int → Int) (rm : Int → Int) (rd : Int → Int) (ro : Int → Int) (tm : Int → Int) (sk : Int → Int) (wd : Int → Int) (ys : Int → Int) (ym : Int → Int) (yd : Int → Int) (yo : Int → Int) (lx : Nat → Option Nat) (pr : Int → Int → Int) (be : Int → Int → Int) (ts : List TD) : List xM := [.inr (4, [.int (ii pq0), .int (ii pq1), .int (ii pq2), .int (ii pq3), .int (ii pq4), .int (ii pq5), .int (ii pq6), .int (ii pq7), .int (ii pq8), .int (ii pq9), .ref 1, .ref 13, .ref 17, .ref 4, .ref 5, .ref 2, .ref 3]), .inl (2, 20, .inl (ia (xk))), .inl (0, 20, .inl (ia (sq))), .inl (0, 20, .inl (ia (oq))), .inl (7, 6, .inr (.inr (.inr (.inr (fun i => some (23 + i)))))), .inl (7, 22, .inr (.inr (.inr (.inr (fun i => some (29 + i)))))), .inl (0, 20, .inl (ia (rs))), .inr (7, [.ref 8, .ref 12, .ref 22, .int (ii lc), .int (ii fo)]), .inr (5, [.ref 6, .int (ii rn), .ref 9, .ref 10, .ref 11, .int (ii rl), .int (ii rp)]), .inl (0, 20, .inl (ia (rm))), .inl (0, 20, .inl (ia (rd))), .inl (0, 20, .inl (ia (ro))), .inl (0, 3, .inl (ia (tm))), .inr (0, [.ref 14, .ref 16, .int (ii td)]), .inr (8, [.int (ii br), .ref 15]), .inl (0, 51, .inl (ia (sk))), .inl (0, 52, .inl (ia (wd))), .inr (5, [.ref 18, .int (ii yn), .ref 19, .ref 20, .ref 21, .int (ii yl), .int (ii yp)]), .inl (0, 20, .inl (ia (ys))), .inl (0, 20, .inl (ia (ym))), .inl (0, 20, .inl (ia (yd))), .inl (0, 20, .inl (ia (yo))), .inl (5, 6, .inr (.inr (.inr (.inr (lwR 51 lx)))))] ++ (tblI 6 21 pr ++ (tblI 22 22 be ++ TX 51 ts))
section WR_PX
variable {g : Bool} {y : xY} {d pc : Nat} {L : List (Option Value)} {zst : List Value} {bc bs : Nat} {Q : List xM → Option Value → Prop} {pq0 pq1 pq2 pq3 pq4 pq5 pq6 pq7 pq8 pq9 lc fo rn rl rp td br yn yl yp : Int} {xk sq oq rs rm rd ro tm sk wd ys ym yd yo : Int → Int} {lx : Nat → Option Nat} {pr be : Int → Int → Int} {ts : List TD} 
theorem gf_PX_0_0 {idx : Nat} (hf : x_fs y.1.cls idx 4 0) (hd : decode y.2.1 pc = .ok (.getfield idx, 3)) (kk : SJ g y d (pc + 3) L (.int (ii pq0) :: zst) (W_PX pq0 pq1 pq2 pq3 pq4 pq5 pq6 pq7 pq8 pq9 lc fo rn rl rp td br yn yl yp xk sq oq rs rm rd ro tm sk wd ys ym yd yo lx pr be ts) bc bs Q) : SJ g y d pc L (.ref 0 :: zst) (W_PX pq0 pq1 pq2 pq3 pq4 pq5 pq6 pq7 pq8 pq9 lc fo rn rl rp td br yn yl yp xk sq oq rs rm rd ro tm sk wd ys ym yd yo lx pr be ts) bc bs Q := j_getf hd hf rfl rfl kk
theorem pf_PX_0_0 {idx : Nat} {v : Int} (hf : x_fs y.1.cls idx 4 0) (hd : decode y.2.1 pc = .ok (.putfield idx, 3)) (kk : SJ g y d (pc + 3) L zst (W_PX v pq1 pq2 pq3 pq4 pq5 pq6 pq7 pq8 pq9 lc fo rn rl rp td br yn yl yp xk sq oq rs rm rd ro tm sk wd ys ym yd yo lx pr be ts) bc bs Q) : SJ g y d pc L (.int (ii v) :: .ref 0 :: zst) (W_PX pq0 pq1 pq2 pq3 pq4 pq5 pq6 pq7 pq8 pq9 lc fo rn rl rp td br yn yl yp xk sq oq rs rm rd ro tm sk wd ys ym yd yo lx pr be ts) bc bs Q := j_putf (ci := 4) (k := 0) hd hf ⟨_, rfl, rfl, rfl⟩ rfl (Nat.le_of_ble_eq_true rfl) x_okI kk
theorem gf_PX_0_1 {idx : Nat} (hf : x_fs y.1.cls idx 4 1) (hd : decode y.2.1 pc = .ok (.getfield idx, 3)) (kk : SJ g y d (pc + 3) L (.int (ii pq1) :: zst) (W_PX pq0 pq1 pq2 pq3 pq4 pq5 pq6 pq7 pq8 pq9 lc fo rn rl rp td br yn yl yp xk sq oq rs rm rd ro tm sk wd ys ym yd yo lx pr be ts) bc bs Q) : SJ g y d pc L (.ref 0 :: zst) (W_PX pq0 pq1 pq2 pq3 pq4 pq5 pq6 pq7 pq8 pq9 lc fo rn rl rp td br yn yl yp xk sq oq rs rm rd ro tm sk wd ys ym yd yo lx pr be ts) bc bs Q := j_getf hd hf rfl rfl kk
theorem pf_PX_0_1 {idx : Nat} {v : Int} (hf : x_fs y.1.cls idx 4 1) (hd : decode y.2.1 pc = .ok (.putfield idx, 3)) (kk : SJ g y d (pc + 3) L zst (W_PX pq0 v pq2 pq3 pq4 pq5 pq6 pq7 pq8 pq9 lc fo rn rl rp td br yn yl yp xk sq oq rs rm rd ro tm sk wd ys ym yd yo lx pr be ts) bc bs Q) : SJ g y d pc L (.int (ii v) :: .ref 0 :: zst) (W_PX pq0 pq1 pq2 pq3 pq4 pq5 pq6 pq7 pq8 pq9 lc fo rn rl rp td br yn yl yp xk sq oq rs rm rd ro tm sk wd ys ym yd yo lx pr be ts) bc bs Q := j_putf (ci := 4) (k := 1) hd hf ⟨_, rfl, rfl, rfl⟩ rfl (Nat.le_of_ble_eq_true rfl) x_okI kk
theorem gf_PX_0_2 {idx : Nat} (hf : x_fs y.1.cls idx 4 2) (hd : decode y.2.1 pc = .ok (.getfield idx, 3)) (kk : SJ g y d (pc + 3) L (.int (ii pq2) :: zst) (W_PX pq0 pq1 pq2 pq3 pq4 pq5 pq6 pq7 pq8 pq9 lc fo rn rl rp td br yn yl yp xk sq oq rs rm rd ro tm sk wd ys ym yd yo lx pr be ts) bc bs Q) : SJ g y d pc L (.ref 0 :: zst) (W_PX pq0 pq1 pq2 pq3 pq4 pq5 pq6 pq7 pq8 pq9 lc fo rn rl rp td br yn yl yp xk sq oq rs rm rd ro tm sk wd ys ym yd yo lx pr be ts) bc bs Q := j_getf hd hf rfl rfl kk
theorem pf_PX_0_2 {idx : Nat} {v : Int} (hf : x_fs y.1.cls idx 4 2) (hd : decode y.2.1 pc = .ok (.putfield idx, 3)) (kk : SJ g y d (pc + 3) L zst (W_PX pq0 pq1 v pq3 pq4 pq5 pq6 pq7 pq8 pq9 lc fo rn rl rp td br yn yl yp xk sq oq rs rm rd ro tm sk wd ys ym yd yo lx pr be ts) bc bs Q) : SJ g y d pc L (.int (ii v) :: .ref 0 :: zst) (W_PX pq0 pq1 pq2 pq3 pq4 pq5 pq6 pq7 pq8 pq9 lc fo rn rl rp td br yn yl yp xk sq oq rs rm rd ro tm sk wd ys ym yd yo lx pr be ts) bc bs Q := j_putf (ci := 4) (k := 2) hd hf ⟨_, rfl, rfl, rfl⟩ rfl (Nat.le_of_ble_eq_true rfl) x_okI kk
theorem gf_PX_0_3 {idx : Nat} (hf : x_fs y.1.cls idx 4 3) (hd : decode y.2.1 pc = .ok (.getfield idx, 3)) (kk : SJ g y d (pc + 3) L (.int (ii pq3) :: zst) (W_PX pq0 pq1 pq2 pq3 pq4 pq5 pq6 pq7 pq8 pq9 lc fo rn rl rp td br yn yl yp xk sq oq rs rm rd ro tm sk wd ys ym yd yo lx pr be ts) bc bs Q) : SJ g y d pc L (.ref 0 :: zst) (W_PX pq0 pq1 pq2 pq3 pq4 pq5 pq6 pq7 pq8 pq9 lc fo rn rl rp td br yn yl yp xk sq oq rs rm rd ro tm sk wd ys ym yd yo lx pr be ts) bc bs Q := j_getf hd hf rfl rfl kk
theorem pf_PX_0_3 {idx : Nat} {v : Int} (hf : x_fs y.1.cls idx 4 3) (hd : decode y.2.1 pc = .ok (.putfield idx, 3)) (kk : SJ g y d (pc + 3) L zst (W_PX pq0 pq1 pq2 v pq4 pq5 pq6 pq7 pq8 pq9 lc fo rn rl rp td br yn yl yp xk sq oq rs rm rd ro tm sk wd ys ym yd yo lx pr be ts) bc bs Q) : SJ g y d pc L (.int (ii v) :: .ref 0 :: zst) (W_PX pq0 pq1 pq2 pq3 pq4 pq5 pq6 pq7 pq8 pq9 lc fo rn rl rp td br yn yl yp xk sq oq rs rm rd ro tm sk wd ys ym yd yo lx pr be ts) bc bs Q := j_putf (ci := 4) (k := 3) hd hf ⟨_, rfl, rfl, rfl⟩ rfl (Nat.le_of_ble_eq_true rfl) x_okI kk
theorem gf_PX_0_4 {idx : Nat} (hf : x_fs y.1.cls idx 4 4) (hd : decode y.2.1 pc = .ok (.getfield idx, 3)) (kk : SJ g y d (pc + 3) L (.int (ii pq4) :: zst) (W_PX pq0 pq1 pq2 pq3 pq4 pq5 pq6 pq7 pq8 pq9 lc fo rn rl rp td br yn yl yp xk sq oq rs rm rd ro tm sk wd ys ym yd yo lx pr be ts) bc bs Q) : SJ g y d pc L (.ref 0 :: zst) (W_PX pq0 pq1 pq2 pq3 pq4 pq5 pq6 pq7 pq8 pq9 lc fo rn rl rp td br yn yl yp xk sq oq rs rm rd ro tm sk wd ys ym yd yo lx pr be ts) bc bs Q := j_getf hd hf rfl rfl kk
theorem pf_PX_0_4 {idx : Nat} {v : Int} (hf : x_fs y.1.cls idx 4 4) (hd : decode y.2.1 pc = .ok (.putfield idx, 3)) (kk : SJ g y d (pc + 3) L zst (W_PX pq0 pq1 pq2 pq3 v pq5 pq6 pq7 pq8 pq9 lc fo rn rl rp td br yn yl yp xk sq oq rs rm rd ro tm sk wd ys ym yd yo lx pr be ts) bc bs Q) : SJ g y d pc L (.int (ii v) :: .ref 0 :: zst) (W_PX pq0 pq1 pq2 pq3 pq4 pq5 pq6 pq7 pq8 pq9 lc fo rn rl rp td br yn yl yp xk sq oq rs rm rd ro tm sk wd ys ym yd yo lx pr be ts) bc bs Q := j_putf (ci := 4) (k := 4) hd hf ⟨_, rfl, rfl, rfl⟩ rfl (Nat.le_of_ble_eq_true rfl) x_okI kk
theorem gf_PX_0_5 {idx : Nat} (hf : x_fs y.1.cls idx 4 5) (hd : decode y.2.1 pc = .ok (.getfield idx, 3)) (kk : SJ g y d (pc + 3) L (.int (ii pq5) :: zst) (W_PX pq0 pq1 pq2 pq3 pq4 pq5 pq6 pq7 pq8 pq9 lc fo rn rl rp td br yn yl yp xk sq oq rs rm rd ro tm sk wd ys ym yd yo lx pr be ts) bc bs Q) : SJ g y d pc L (.ref 0 :: zst) (W_PX pq0 pq1 pq2 pq3 pq4 pq5 pq6 pq7 pq8 pq9 lc fo rn rl rp td br yn yl yp xk sq oq rs rm rd ro tm sk wd ys ym yd yo lx pr be ts) bc bs Q := j_getf hd hf rfl rfl kk
theorem pf_PX_0_5 {idx : Nat} {v : Int} (hf : x_fs y.1.cls idx 4 5) (hd : decode y.2.1 pc = .ok (.putfield idx, 3)) (kk : SJ g y d (pc + 3) L zst (W_PX pq0 pq1 pq2 pq3 pq4 v pq6 pq7 pq8 pq9 lc fo rn rl rp td br yn yl yp xk sq oq rs rm rd ro tm sk wd ys ym yd yo lx pr be ts) bc bs Q) : SJ g y d pc L (.int (ii v) :: .ref 0 :: zst) (W_PX pq0 pq1 pq2 pq3 pq4 pq5 pq6 pq7 pq8 pq9 lc fo rn rl rp td br yn yl yp xk sq oq rs rm rd ro tm sk wd ys ym yd yo lx pr be ts) bc bs Q := j_putf (ci := 4) (k := 5) hd hf ⟨_, rfl, rfl, rfl⟩ rfl (Nat.le_of_ble_eq_true rfl) x_okI kk
theorem gf_PX_0_6 {idx : Nat} (hf : x_fs y.1.cls idx 4 6) (hd : decode y.2.1 pc = .ok (.getfield idx, 3)) (kk : SJ g y d (pc + 3) L (.int (ii pq6) :: zst) (W_PX pq0 pq1 pq2 pq3 pq4 pq5 pq6 pq7 pq8 pq9 lc fo rn rl rp td br yn yl yp xk sq oq rs rm rd ro tm sk wd ys ym yd yo lx pr be ts) bc bs Q) : SJ g y d pc L (.ref 0 :: zst) (W_PX pq0 pq1 pq2 pq3 pq4 pq5 pq6 pq7 pq8 pq9 lc fo rn rl rp td br yn yl yp xk sq oq rs rm rd ro tm sk wd ys ym yd yo lx pr be ts) bc bs Q := j_getf hd hf rfl rfl kk
theorem pf_PX_0_6 {idx : Nat} {v : Int} (hf : x_fs y.1.cls idx 4 6) (hd : decode y.2.1 pc = .ok (.putfield idx, 3)) (kk : SJ g y d (pc + 3) L zst (W_PX pq0 pq1 pq2 pq3 pq4 pq5 v pq7 pq8 pq9 lc fo rn rl rp td br yn yl yp xk sq oq rs rm rd ro tm sk wd ys ym yd yo lx pr be ts) bc bs Q) : SJ g y d pc L (.int (ii v) :: .ref 0 :: zst) (W_PX pq0 pq1 pq2 pq3 pq4 pq5 pq6 pq7 pq8 pq9 lc fo rn rl rp td br yn yl yp xk sq oq rs rm rd ro tm sk wd ys ym yd yo lx pr be ts) bc bs Q := j_putf (ci := 4) (k := 6) hd hf ⟨_, rfl, rfl, rfl⟩ rfl (Nat.le_of_ble_eq_true rfl) x_okI kk
theorem gf_PX_0_7 {idx : Nat} (hf : x_fs y.1.cls idx 4 7) (hd : decode y.2.1 pc = .ok (.getfield idx, 3)) (kk : SJ g y d (pc + 3) L (.int (ii pq7) :: zst) (W_PX pq0 pq1 pq2 pq3 pq4 pq5 pq6 pq7 pq8 pq9 lc fo rn rl rp td br yn yl yp xk sq oq rs rm rd ro tm sk wd ys ym yd yo lx pr be ts) bc bs Q) : SJ g y d pc L (.ref 0 :: zst) (W_PX pq0 pq1 pq2 pq3 pq4 pq5 pq6 pq7 pq8 pq9 lc fo rn rl rp td br yn yl yp xk sq oq rs rm rd ro tm sk wd ys ym yd yo lx pr be ts) bc bs Q := j_getf hd hf rfl rfl kk
theorem pf_PX_0_7 {idx : Nat} {v : Int} (hf : x_fs y.1.cls idx 4 7) (hd : decode y.2.1 pc = .ok (.putfield idx, 3)) (kk : SJ g y d (pc + 3) L zst (W_PX pq0 pq1 pq2 pq3 pq4 pq5 pq6 v pq8 pq9 lc fo rn rl rp td br yn yl yp xk sq oq rs rm rd ro tm sk wd ys ym yd yo lx pr be ts) bc bs Q) : SJ g y d pc L (.int (ii v) :: .ref 0 :: zst) (W_PX pq0 pq1 pq2 pq3 pq4 pq5 pq6 pq7 pq8 pq9 lc fo rn rl rp td br yn yl yp xk sq oq rs rm rd ro tm sk wd ys ym yd yo lx pr be ts) bc bs Q := j_putf (ci := 4) (k := 7) hd hf ⟨_, rfl, rfl, rfl⟩ rfl (Nat.le_of_ble_eq_true rfl) x_okI kk
theorem gf_PX_0_8 {idx : Nat} (hf : x_fs y.1.cls idx 4 8) (hd : decode y.2.1 pc = .ok (.getfield idx, 3)) (kk : SJ g y d (pc + 3) L (.int (ii pq8) :: zst) (W_PX pq0 pq1 pq2 pq3 pq4 pq5 pq6 pq7 pq8 pq9 lc fo rn rl rp td br yn yl yp xk sq oq rs rm rd ro tm sk wd ys ym yd yo lx pr be ts) bc bs Q) : SJ g y d pc L (.ref 0 :: zst) (W_PX pq0 pq1 pq2 pq3 pq4 pq5 pq6 pq7 pq8 pq9 lc fo rn rl rp td br yn yl yp xk sq oq rs rm rd ro tm sk wd ys ym yd yo lx pr be ts) bc bs Q := j_getf hd hf rfl rfl kk
theorem pf_PX_0_8 {idx : Nat} {v : Int} (hf : x_fs y.1.cls idx 4 8) (hd : decode y.2.1 pc = .ok (.putfield idx, 3)) (kk : SJ g y d (pc + 3) L zst (W_PX pq0 pq1 pq2 pq3 pq4 pq5 pq6 pq7 v pq9 lc fo rn rl rp td br yn yl yp xk sq oq rs rm rd ro tm sk wd ys ym yd yo lx pr be ts) bc bs Q) : SJ g y d pc L (.int (ii v) :: .ref 0 :: zst) (W_PX pq0 pq1 pq2 pq3 pq4 pq5 pq6 pq7 pq8 pq9 lc fo rn rl rp td br yn yl yp xk sq oq rs rm rd ro tm sk wd ys ym yd yo lx pr be ts) bc bs Q := j_putf (ci := 4) (k := 8) hd hf ⟨_, rfl, rfl, rfl⟩ rfl (Nat.le_of_ble_eq_true rfl) x_okI kk
theorem gf_PX_0_9 {idx : Nat} (hf : x_fs y.1.cls idx 4 9) (hd : decode y.2.1 pc = .ok (.getfield idx, 3)) (kk : SJ g y d (pc + 3) L (.int (ii pq9) :: zst) (W_PX pq0 pq1 pq2 pq3 pq4 pq5 pq6 pq7 pq8 pq9 lc fo rn rl rp td br yn yl yp xk sq oq rs rm rd ro tm sk wd ys ym yd yo lx pr be ts) bc bs Q) : SJ g y d pc L (.ref 0 :: zst) (W_PX pq0 pq1 pq2 pq3 pq4 pq5 pq6 pq7 pq8 pq9 lc fo rn rl rp td br yn yl yp xk sq oq rs rm rd ro tm sk wd ys ym yd yo lx pr be ts) bc bs Q := j_getf hd hf rfl rfl kk
theorem pf_PX_0_9 {idx : Nat} {v : Int} (hf : x_fs y.1.cls idx 4 9) (hd : decode y.2.1 pc = .ok (.putfield idx, 3)) (kk : SJ g y d (pc + 3) L zst (W_PX pq0 pq1 pq2 pq3 pq4 pq5 pq6 pq7 pq8 v lc fo rn rl rp td br yn yl yp xk sq oq rs rm rd ro tm sk wd ys ym yd yo lx pr be ts) bc bs Q) : SJ g y d pc L (.int (ii v) :: .ref 0 :: zst) (W_PX pq0 pq1 pq2 pq3 pq4 pq5 pq6 pq7 pq8 pq9 lc fo rn rl rp td br yn yl yp xk sq oq rs rm rd ro tm sk wd ys ym yd yo lx pr be ts) bc bs Q := j_putf (ci := 4) (k := 9) hd hf ⟨_, rfl, rfl, rfl⟩ rfl (Nat.le_of_ble_eq_true rfl) x_okI kk
theorem gf_PX_0_10 {idx : Nat} (hf : x_fs y.1.cls idx 4 10) (hd : decode y.2.1 pc = .ok (.getfield idx, 3)) (kk : SJ g y d (pc + 3) L (.ref 1 :: zst) (W_PX pq0 pq1 pq2 pq3 pq4 pq5 pq6 pq7 pq8 pq9 lc fo rn rl rp td br yn yl yp xk sq oq rs rm rd ro tm sk wd ys ym yd yo lx pr be ts) bc bs Q) : SJ g y d pc L (.ref 0 :: zst) (W_PX pq0 pq1 pq2 pq3 pq4 pq5 pq6 pq7 pq8 pq9 lc fo rn rl rp td br yn yl yp xk sq oq rs rm rd ro tm sk wd ys ym yd yo lx pr be ts) bc bs Q := j_getf hd hf rfl rfl kk
theorem gf_PX_0_11 {idx : Nat} (hf : x_fs y.1.cls idx 4 11) (hd : decode y.2.1 pc = .ok (.getfield idx, 3)) (kk : SJ g y d (pc + 3) L (.ref 13 :: zst) (W_PX pq0 pq1 pq2 pq3 pq4 pq5 pq6 pq7 pq8 pq9 lc fo rn rl rp td br yn yl yp xk sq oq rs rm rd ro tm sk wd ys ym yd yo lx pr be ts) bc bs Q) : SJ g y d pc L (.ref 0 :: zst) (W_PX pq0 pq1 pq2 pq3 pq4 pq5 pq6 pq7 pq8 pq9 lc fo rn rl rp td br yn yl yp xk sq oq rs rm rd ro tm sk wd ys ym yd yo lx pr be ts) bc bs Q := j_getf hd hf rfl rfl kk
theorem gf_PX_0_12 {idx : Nat} (hf : x_fs y.1.cls idx 4 12) (hd : decode y.2.1 pc = .ok (.getfield idx, 3)) (kk : SJ g y d (pc + 3) L (.ref 17 :: zst) (W_PX pq0 pq1 pq2 pq3 pq4 pq5 pq6 pq7 pq8 pq9 lc fo rn rl rp td br yn yl yp xk sq oq rs rm rd ro tm sk wd ys ym yd yo lx pr be ts) bc bs Q) : SJ g y d pc L (.ref 0 :: zst) (W_PX pq0 pq1 pq2 pq3 pq4 pq5 pq6 pq7 pq8 pq9 lc fo rn rl rp td br yn yl yp xk sq oq rs rm rd ro tm sk wd ys ym yd yo lx pr be ts) bc bs Q := j_getf hd hf rfl rfl kk
theorem gf_PX_0_13 {idx : Nat} (hf : x_fs y.1.cls idx 4 13) (hd : decode y.2.1 pc = .ok (.getfield idx, 3)) (kk : SJ g y d (pc + 3) L (.ref 4 :: zst) (W_PX pq0 pq1 pq2 pq3 pq4 pq5 pq6 pq7 pq8 pq9 lc fo rn rl rp td br yn yl yp xk sq oq rs rm rd ro tm sk wd ys ym yd yo lx pr be ts) bc bs Q) : SJ g y d pc L (.ref 0 :: zst) (W_PX pq0 pq1 pq2 pq3 pq4 pq5 pq6 pq7 pq8 pq9 lc fo rn rl rp td br yn yl yp xk sq oq rs rm rd ro tm sk wd ys ym yd yo lx pr be ts) bc bs Q := j_getf hd hf rfl rfl kk
theorem gf_PX_0_14 {idx : Nat} (hf : x_fs y.1.cls idx 4 14) (hd : decode y.2.1 pc = .ok (.getfield idx, 3)) (kk : SJ g y d (pc + 3) L (.ref 5 :: zst) (W_PX pq0 pq1 pq2 pq3 pq4 pq5 pq6 pq7 pq8 pq9 lc fo rn rl rp td br yn yl yp xk sq oq rs rm rd ro tm sk wd ys ym yd yo lx pr be ts) bc bs Q) : SJ g y d pc L (.ref 0 :: zst) (W_PX pq0 pq1 pq2 pq3 pq4 pq5 pq6 pq7 pq8 pq9 lc fo rn rl rp td br yn yl yp xk sq oq rs rm rd ro tm sk wd ys ym yd yo lx pr be ts) bc bs Q := j_getf hd hf rfl rfl kk
theorem gf_PX_0_15 {idx : Nat} (hf : x_fs y.1.cls idx 4 15) (hd : decode y.2.1 pc = .ok (.getfield idx, 3)) (kk : SJ g y d (pc + 3) L (.ref 2 :: zst) (W_PX pq0 pq1 pq2 pq3 pq4 pq5 pq6 pq7 pq8 pq9 lc fo rn rl rp td br yn yl yp xk sq oq rs rm rd ro tm sk wd ys ym yd yo lx pr be ts) bc bs Q) : SJ g y d pc L (.ref 0 :: zst) (W_PX pq0 pq1 pq2 pq3 pq4 pq5 pq6 pq7 pq8 pq9 lc fo rn rl rp td br yn yl yp xk sq oq rs rm rd ro tm sk wd ys ym yd yo lx pr be ts) bc bs Q := j_getf hd hf rfl rfl kk
theorem gf_PX_0_16 {idx : Nat} (hf : x_fs y.1.cls idx 4 16) (hd : decode y.2.1 pc = .ok (.getfield idx, 3)) (kk : SJ g y d (pc + 3) L (.ref 3 :: zst) (W_PX pq0 pq1 pq2 pq3 pq4 pq5 pq6 pq7 pq8 pq9 lc fo rn rl rp td br yn yl yp xk sq oq rs rm rd ro tm sk wd ys ym yd yo lx pr be ts) bc bs Q) : SJ g y d pc L (.ref 0 :: zst) (W_PX pq0 pq1 pq2 pq3 pq4 pq5 pq6 pq7 pq8 pq9 lc fo rn rl rp td br yn yl yp xk sq oq rs rm rd ro tm sk wd ys ym yd yo lx pr be ts) bc bs Q := j_getf hd hf rfl rfl kk
theorem al_PX_1 {a : Int} (hd : decode y.2.1 pc = .ok (.baload, 1)) (h0 : 0 ≤ a) (h1 : a < 20) (kk : SJ g y d (pc + 1) L (.int (ii (xk a)) :: zst) (W_PX pq0 pq1 pq2 pq3 pq4 pq5 pq6 pq7 pq8 pq9 lc fo rn rl rp td br yn yl yp xk sq oq rs rm rd ro tm sk wd ys ym yd yo lx pr be ts) bc bs Q) : SJ g y d pc L (.int (ii a) :: .ref 1 :: zst) (W_PX pq0 pq1 pq2 pq3 pq4 pq5 pq6 pq7 pq8 pq9 lc fo rn rl rp td br yn yl yp xk sq oq rs rm rd ro tm sk wd ys ym yd yo lx pr be ts) bc bs Q := z_zald hd rfl h0 h1 ⟨by omega, by omega⟩ kk
theorem as_PX_1 {a v : Int} (hd : decode y.2.1 pc = .ok (.bastore, 1)) (h0 : 0 ≤ a) (h1 : a < 20) (hv : v = 0 ∨ v = 1) (kk : SJ g y d (pc + 1) L zst (W_PX pq0 pq1 pq2 pq3 pq4 pq5 pq6 pq7 pq8 pq9 lc fo rn rl rp td br yn yl yp (up xk a v) sq oq rs rm rd ro tm sk wd ys ym yd yo lx pr be ts) bc bs Q) : SJ g y d pc L (.int (ii v) :: .int (ii a) :: .ref 1 :: zst) (W_PX pq0 pq1 pq2 pq3 pq4 pq5 pq6 pq7 pq8 pq9 lc fo rn rl rp td br yn yl yp xk sq oq rs rm rd ro tm sk wd ys ym yd yo lx pr be ts) bc bs Q := z_zast hd rfl h0 h1 ⟨by omega, by omega⟩ hv kk
theorem al_PX_2 {a : Int} (hd : decode y.2.1 pc = .ok (.iaload, 1)) (h0 : 0 ≤ a) (h1 : a < 20) (kk : SJ g y d (pc + 1) L (.int (ii (sq a)) :: zst) (W_PX pq0 pq1 pq2 pq3 pq4 pq5 pq6 pq7 pq8 pq9 lc fo rn rl rp td br yn yl yp xk sq oq rs rm rd ro tm sk wd ys ym yd yo lx pr be ts) bc bs Q) : SJ g y d pc L (.int (ii a) :: .ref 2 :: zst) (W_PX pq0 pq1 pq2 pq3 pq4 pq5 pq6 pq7 pq8 pq9 lc fo rn rl rp td br yn yl yp xk sq oq rs rm rd ro tm sk wd ys ym yd yo lx pr be ts) bc bs Q := z_iald hd rfl h0 h1 ⟨by omega, by omega⟩ kk
theorem as_PX_2 {a v : Int} (hd : decode y.2.1 pc = .ok (.iastore, 1)) (h0 : 0 ≤ a) (h1 : a < 20) (kk : SJ g y d (pc + 1) L zst (W_PX pq0 pq1 pq2 pq3 pq4 pq5 pq6 pq7 pq8 pq9 lc fo rn rl rp td br yn yl yp xk (up sq a v) oq rs rm rd ro tm sk wd ys ym yd yo lx pr be ts) bc bs Q) : SJ g y d pc L (.int (ii v) :: .int (ii a) :: .ref 2 :: zst) (W_PX pq0 pq1 pq2 pq3 pq4 pq5 pq6 pq7 pq8 pq9 lc fo rn rl rp td br yn yl yp xk sq oq rs rm rd ro tm sk wd ys ym yd yo lx pr be ts) bc bs Q := z_iast hd rfl h0 h1 ⟨by omega, by omega⟩ kk
theorem al_PX_3 {a : Int} (hd : decode y.2.1 pc = .ok (.iaload, 1)) (h0 : 0 ≤ a) (h1 : a < 20) (kk : SJ g y d (pc + 1) L (.int (ii (oq a)) :: zst) (W_PX pq0 pq1 pq2 pq3 pq4 pq5 pq6 pq7 pq8 pq9 lc fo rn rl rp td br yn yl yp xk sq oq rs rm rd ro tm sk wd ys ym yd yo lx pr be ts) bc bs Q) : SJ g y d pc L (.int (ii a) :: .ref 3 :: zst) (W_PX pq0 pq1 pq2 pq3 pq4 pq5 pq6 pq7 pq8 pq9 lc fo rn rl rp td br yn yl yp xk sq oq rs rm rd ro tm sk wd ys ym yd yo lx pr be ts) bc bs Q := z_iald hd rfl h0 h1 ⟨by omega, by omega⟩ kk
theorem as_PX_3 {a v : Int} (hd : decode y.2.1 pc = .ok (.iastore, 1)) (h0 : 0 ≤ a) (h1 : a < 20) (kk : SJ g y d (pc + 1) L zst (W_PX pq0 pq1 pq2 pq3 pq4 pq5 pq6 pq7 pq8 pq9 lc fo rn rl rp td br yn yl yp xk sq (up oq a v) rs rm rd ro tm sk wd ys ym yd yo lx pr be ts) bc bs Q) : SJ g y d pc L (.int (ii v) :: .int (ii a) :: .ref 3 :: zst) (W_PX pq0 pq1 pq2 pq3 pq4 pq5 pq6 pq7 pq8 pq9 lc fo rn rl rp td br yn yl yp xk sq oq rs rm rd ro tm sk wd ys ym yd yo lx pr be ts) bc bs Q := z_iast hd rfl h0 h1 ⟨by omega, by omega⟩ kk
theorem al_PX_6 {a : Int} (hd : decode y.2.1 pc = .ok (.iaload, 1)) (h0 : 0 ≤ a) (h1 : a < 20) (kk : SJ g y d (pc + 1) L (.int (ii (rs a)) :: zst) (W_PX pq0 pq1 pq2 pq3 pq4 pq5 pq6 pq7 pq8 pq9 lc fo rn rl rp td br yn yl yp xk sq oq rs rm rd ro tm sk wd ys ym yd yo lx pr be ts) bc bs Q) : SJ g y d pc L (.int (ii a) :: .ref 6 :: zst) (W_PX pq0 pq1 pq2 pq3 pq4 pq5 pq6 pq7 pq8 pq9 lc fo rn rl rp td br yn yl yp xk sq oq rs rm rd ro tm sk wd ys ym yd yo lx pr be ts) bc bs Q := z_iald hd rfl h0 h1 ⟨by omega, by omega⟩ kk
theorem as_PX_6 {a v : Int} (hd : decode y.2.1 pc = .ok (.iastore, 1)) (h0 : 0 ≤ a) (h1 : a < 20) (kk : SJ g y d (pc + 1) L zst (W_PX pq0 pq1 pq2 pq3 pq4 pq5 pq6 pq7 pq8 pq9 lc fo rn rl rp td br yn yl yp xk sq oq (up rs a v) rm rd ro tm sk wd ys ym yd yo lx pr be ts) bc bs Q) : SJ g y d pc L (.int (ii v) :: .int (ii a) :: .ref 6 :: zst) (W_PX pq0 pq1 pq2 pq3 pq4 pq5 pq6 pq7 pq8 pq9 lc fo rn rl rp td br yn yl yp xk sq oq rs rm rd ro tm sk wd ys ym yd yo lx pr be ts) bc bs Q := z_iast hd rfl h0 h1 ⟨by omega, by omega⟩ kk
theorem gf_PX_7_0 {idx : Nat} (hf : x_fs y.1.cls idx 7 0) (hd : decode y.2.1 pc = .ok (.getfield idx, 3)) (kk : SJ g y d (pc + 3) L (.ref 8 :: zst) (W_PX pq0 pq1 pq2 pq3 pq4 pq5 pq6 pq7 pq8 pq9 lc fo rn rl rp td br yn yl yp xk sq oq rs rm rd ro tm sk wd ys ym yd yo lx pr be ts) bc bs Q) : SJ g y d pc L (.ref 7 :: zst) (W_PX pq0 pq1 pq2 pq3 pq4 pq5 pq6 pq7 pq8 pq9 lc fo rn rl rp td br yn yl yp xk sq oq rs rm rd ro tm sk wd ys ym yd yo lx pr be ts) bc bs Q := j_getf hd hf rfl rfl kk
theorem gf_PX_7_1 {idx : Nat} (hf : x_fs y.1.cls idx 7 1) (hd : decode y.2.1 pc = .ok (.getfield idx, 3)) (kk : SJ g y d (pc + 3) L (.ref 12 :: zst) (W_PX pq0 pq1 pq2 pq3 pq4 pq5 pq6 pq7 pq8 pq9 lc fo rn rl rp td br yn yl yp xk sq oq rs rm rd ro tm sk wd ys ym yd yo lx pr be ts) bc bs Q) : SJ g y d pc L (.ref 7 :: zst) (W_PX pq0 pq1 pq2 pq3 pq4 pq5 pq6 pq7 pq8 pq9 lc fo rn rl rp td br yn yl yp xk sq oq rs rm rd ro tm sk wd ys ym yd yo lx pr be ts) bc bs Q := j_getf hd hf rfl rfl kk
theorem gf_PX_7_2 {idx : Nat} (hf : x_fs y.1.cls idx 7 2) (hd : decode y.2.1 pc = .ok (.getfield idx, 3)) (kk : SJ g y d (pc + 3) L (.ref 22 :: zst) (W_PX pq0 pq1 pq2 pq3 pq4 pq5 pq6 pq7 pq8 pq9 lc fo rn rl rp td br yn yl yp xk sq oq rs rm rd ro tm sk wd ys ym yd yo lx pr be ts) bc bs Q) : SJ g y d pc L (.ref 7 :: zst) (W_PX pq0 pq1 pq2 pq3 pq4 pq5 pq6 pq7 pq8 pq9 lc fo rn rl rp td br yn yl yp xk sq oq rs rm rd ro tm sk wd ys ym yd yo lx pr be ts) bc bs Q := j_getf hd hf rfl rfl kk
theorem gf_PX_7_3 {idx : Nat} (hf : x_fs y.1.cls idx 7 3) (hd : decode y.2.1 pc = .ok (.getfield idx, 3)) (kk : SJ g y d (pc + 3) L (.int (ii lc) :: zst) (W_PX pq0 pq1 pq2 pq3 pq4 pq5 pq6 pq7 pq8 pq9 lc fo rn rl rp td br yn yl yp xk sq oq rs rm rd ro tm sk wd ys ym yd yo lx pr be ts) bc bs Q) : SJ g y d pc L (.ref 7 :: zst) (W_PX pq0 pq1 pq2 pq3 pq4 pq5 pq6 pq7 pq8 pq9 lc fo rn rl rp td br yn yl yp xk sq oq rs rm rd ro tm sk wd ys ym yd yo lx pr be ts) bc bs Q := j_getf hd hf rfl rfl kk
theorem pf_PX_7_3 {idx : Nat} {v : Int} (hf : x_fs y.1.cls idx 7 3) (hd : decode y.2.1 pc = .ok (.putfield idx, 3)) (kk : SJ g y d (pc + 3) L zst (W_PX pq0 pq1 pq2 pq3 pq4 pq5 pq6 pq7 pq8 pq9 v fo rn rl rp td br yn yl yp xk sq oq rs rm rd ro tm sk wd ys ym yd yo lx pr be ts) bc bs Q) : SJ g y d pc L (.int (ii v) :: .ref 7 :: zst) (W_PX pq0 pq1 pq2 pq3 pq4 pq5 pq6 pq7 pq8 pq9 lc fo rn rl rp td br yn yl yp xk sq oq rs rm rd ro tm sk wd ys ym yd yo lx pr be ts) bc bs Q := j_putf (ci := 7) (k := 3) hd hf ⟨_, rfl, rfl, rfl⟩ rfl (Nat.le_of_ble_eq_true rfl) x_okI kk
theorem gf_PX_7_4 {idx : Nat} (hf : x_fs y.1.cls idx 7 4) (hd : decode y.2.1 pc = .ok (.getfield idx, 3)) (kk : SJ g y d (pc + 3) L (.int (ii fo) :: zst) (W_PX pq0 pq1 pq2 pq3 pq4 pq5 pq6 pq7 pq8 pq9 lc fo rn rl rp td br yn yl yp xk sq oq rs rm rd ro tm sk wd ys ym yd yo lx pr be ts) bc bs Q) : SJ g y d pc L (.ref 7 :: zst) (W_PX pq0 pq1 pq2 pq3 pq4 pq5 pq6 pq7 pq8 pq9 lc fo rn rl rp td br yn yl yp xk sq oq rs rm rd ro tm sk wd ys ym yd yo lx pr be ts) bc bs Q := j_getf hd hf rfl rfl kk
theorem pf_PX_7_4 {idx : Nat} {v : Int} (hf : x_fs y.1.cls idx 7 4) (hd : decode y.2.1 pc = .ok (.putfield idx, 3)) (kk : SJ g y d (pc + 3) L zst (W_PX pq0 pq1 pq2 pq3 pq4 pq5 pq6 pq7 pq8 pq9 lc v rn rl rp td br yn yl yp xk sq oq rs rm rd ro tm sk wd ys ym yd yo lx pr be ts) bc bs Q) : SJ g y d pc L (.int (ii v) :: .ref 7 :: zst) (W_PX pq0 pq1 pq2 pq3 pq4 pq5 pq6 pq7 pq8 pq9 lc fo rn rl rp td br yn yl yp xk sq oq rs rm rd ro tm sk wd ys ym yd yo lx pr be ts) bc bs Q := j_putf (ci := 7) (k := 4) hd hf ⟨_, rfl, rfl, rfl⟩ rfl (Nat.le_of_ble_eq_true rfl) x_okI kk
theorem gf_PX_8_0 {idx : Nat} (hf : x_fs y.1.cls idx 5 0) (hd : decode y.2.1 pc = .ok (.getfield idx, 3)) (kk : SJ g y d (pc + 3) L (.ref 6 :: zst) (W_PX pq0 pq1 pq2 pq3 pq4 pq5 pq6 pq7 pq8 pq9 lc fo rn rl rp td br yn yl yp xk sq oq rs rm rd ro tm sk wd ys ym yd yo lx pr be ts) bc bs Q) : SJ g y d pc L (.ref 8 :: zst) (W_PX pq0 pq1 pq2 pq3 pq4 pq5 pq6 pq7 pq8 pq9 lc fo rn rl rp td br yn yl yp xk sq oq rs rm rd ro tm sk wd ys ym yd yo lx pr be ts) bc bs Q := j_getf hd hf rfl rfl kk
theorem gf_PX_8_1 {idx : Nat} (hf : x_fs y.1.cls idx 5 1) (hd : decode y.2.1 pc = .ok (.getfield idx, 3)) (kk : SJ g y d (pc + 3) L (.int (ii rn) :: zst) (W_PX pq0 pq1 pq2 pq3 pq4 pq5 pq6 pq7 pq8 pq9 lc fo rn rl rp td br yn yl yp xk sq oq rs rm rd ro tm sk wd ys ym yd yo lx pr be ts) bc bs Q) : SJ g y d pc L (.ref 8 :: zst) (W_PX pq0 pq1 pq2 pq3 pq4 pq5 pq6 pq7 pq8 pq9 lc fo rn rl rp td br yn yl yp xk sq oq rs rm rd ro tm sk wd ys ym yd yo lx pr be ts) bc bs Q := j_getf hd hf rfl rfl kk
theorem pf_PX_8_1 {idx : Nat} {v : Int} (hf : x_fs y.1.cls idx 5 1) (hd : decode y.2.1 pc = .ok (.putfield idx, 3)) (kk : SJ g y d (pc + 3) L zst (W_PX pq0 pq1 pq2 pq3 pq4 pq5 pq6 pq7 pq8 pq9 lc fo v rl rp td br yn yl yp xk sq oq rs rm rd ro tm sk wd ys ym yd yo lx pr be ts) bc bs Q) : SJ g y d pc L (.int (ii v) :: .ref 8 :: zst) (W_PX pq0 pq1 pq2 pq3 pq4 pq5 pq6 pq7 pq8 pq9 lc fo rn rl rp td br yn yl yp xk sq oq rs rm rd ro tm sk wd ys ym yd yo lx pr be ts) bc bs Q := j_putf (ci := 5) (k := 1) hd hf ⟨_, rfl, rfl, rfl⟩ rfl (Nat.le_of_ble_eq_true rfl) x_okI kk
theorem gf_PX_8_2 {idx : Nat} (hf : x_fs y.1.cls idx 5 2) (hd : decode y.2.1 pc = .ok (.getfield idx, 3)) (kk : SJ g y d (pc + 3) L (.ref 9 :: zst) (W_PX pq0 pq1 pq2 pq3 pq4 pq5 pq6 pq7 pq8 pq9 lc fo rn rl rp td br yn yl yp xk sq oq rs rm rd ro tm sk wd ys ym yd yo lx pr be ts) bc bs Q) : SJ g y d pc L (.ref 8 :: zst) (W_PX pq0 pq1 pq2 pq3 pq4 pq5 pq6 pq7 pq8 pq9 lc fo rn rl rp td br yn yl yp xk sq oq rs rm rd ro tm sk wd ys ym yd yo lx pr be ts) bc bs Q := j_getf hd hf rfl rfl kk
theorem gf_PX_8_3 {idx : Nat} (hf : x_fs y.1.cls idx 5 3) (hd : decode y.2.1 pc = .ok (.getfield idx, 3)) (kk : SJ g y d (pc + 3) L (.ref 10 :: zst) (W_PX pq0 pq1 pq2 pq3 pq4 pq5 pq6 pq7 pq8 pq9 lc fo rn rl rp td br yn yl yp xk sq oq rs rm rd ro tm sk wd ys ym yd yo lx pr be ts) bc bs Q) : SJ g y d pc L (.ref 8 :: zst) (W_PX pq0 pq1 pq2 pq3 pq4 pq5 pq6 pq7 pq8 pq9 lc fo rn rl rp td br yn yl yp xk sq oq rs rm rd ro tm sk wd ys ym yd yo lx pr be ts) bc bs Q := j_getf hd hf rfl rfl kk
theorem gf_PX_8_4 {idx : Nat} (hf : x_fs y.1.cls idx 5 4) (hd : decode y.2.1 pc = .ok (.getfield idx, 3)) (kk : SJ g y d (pc + 3) L (.ref 11 :: zst) (W_PX pq0 pq1 pq2 pq3 pq4 pq5 pq6 pq7 pq8 pq9 lc fo rn rl rp td br yn yl yp xk sq oq rs rm rd ro tm sk wd ys ym yd yo lx pr be ts) bc bs Q) : SJ g y d pc L (.ref 8 :: zst) (W_PX pq0 pq1 pq2 pq3 pq4 pq5 pq6 pq7 pq8 pq9 lc fo rn rl rp td br yn yl yp xk sq oq rs rm rd ro tm sk wd ys ym yd yo lx pr be ts) bc bs Q := j_getf hd hf rfl rfl kk
theorem gf_PX_8_5 {idx : Nat} (hf : x_fs y.1.cls idx 5 5) (hd : decode y.2.1 pc = .ok (.getfield idx, 3)) (kk : SJ g y d (pc + 3) L (.int (ii rl) :: zst) (W_PX pq0 pq1 pq2 pq3 pq4 pq5 pq6 pq7 pq8 pq9 lc fo rn rl rp td br yn yl yp xk sq oq rs rm rd ro tm sk wd ys ym yd yo lx pr be ts) bc bs Q) : SJ g y d pc L (.ref 8 :: zst) (W_PX pq0 pq1 pq2 pq3 pq4 pq5 pq6 pq7 pq8 pq9 lc fo rn rl rp td br yn yl yp xk sq oq rs rm rd ro tm sk wd ys ym yd yo lx pr be ts) bc bs Q := j_getf hd hf rfl rfl kk
theorem pf_PX_8_5 {idx : Nat} {v : Int} (hf : x_fs y.1.cls idx 5 5) (hd : decode y.2.1 pc = .ok (.putfield idx, 3)) (kk : SJ g y d (pc + 3) L zst (W_PX pq0 pq1 pq2 pq3 pq4 pq5 pq6 pq7 pq8 pq9 lc fo rn v rp td br yn yl yp xk sq oq rs rm rd ro tm sk wd ys ym yd yo lx pr be ts) bc bs Q) : SJ g y d pc L (.int (ii v) :: .ref 8 :: zst) (W_PX pq0 pq1 pq2 pq3 pq4 pq5 pq6 pq7 pq8 pq9 lc fo rn rl rp td br yn yl yp xk sq oq rs rm rd ro tm sk wd ys ym yd yo lx pr be ts) bc bs Q := j_putf (ci := 5) (k := 5) hd hf ⟨_, rfl, rfl, rfl⟩ rfl (Nat.le_of_ble_eq_true rfl) x_okI kk
theorem gf_PX_8_6 {idx : Nat} (hf : x_fs y.1.cls idx 5 6) (hd : decode y.2.1 pc = .ok (.getfield idx, 3)) (kk : SJ g y d (pc + 3) L (.int (ii rp) :: zst) (W_PX pq0 pq1 pq2 pq3 pq4 pq5 pq6 pq7 pq8 pq9 lc fo rn rl rp td br yn yl yp xk sq oq rs rm rd ro tm sk wd ys ym yd yo lx pr be ts) bc bs Q) : SJ g y d pc L (.ref 8 :: zst) (W_PX pq0 pq1 pq2 pq3 pq4 pq5 pq6 pq7 pq8 pq9 lc fo rn rl rp td br yn yl yp xk sq oq rs rm rd ro tm sk wd ys ym yd yo lx pr be ts) bc bs Q := j_getf hd hf rfl rfl kk
theorem pf_PX_8_6 {idx : Nat} {v : Int} (hf : x_fs y.1.cls idx 5 6) (hd : decode y.2.1 pc = .ok (.putfield idx, 3)) (hv : v = 0 ∨ v = 1) (kk : SJ g y d (pc + 3) L zst (W_PX pq0 pq1 pq2 pq3 pq4 pq5 pq6 pq7 pq8 pq9 lc fo rn rl v td br yn yl yp xk sq oq rs rm rd ro tm sk wd ys ym yd yo lx pr be ts) bc bs Q) : SJ g y d pc L (.int (ii v) :: .ref 8 :: zst) (W_PX pq0 pq1 pq2 pq3 pq4 pq5 pq6 pq7 pq8 pq9 lc fo rn rl rp td br yn yl yp xk sq oq rs rm rd ro tm sk wd ys ym yd yo lx pr be ts) bc bs Q := j_putf (ci := 5) (k := 6) hd hf ⟨_, rfl, rfl, rfl⟩ rfl (Nat.le_of_ble_eq_true rfl) (by rcases hv with rfl | rfl; exact x_ok0; exact x_ok1) kk
theorem al_PX_9 {a : Int} (hd : decode y.2.1 pc = .ok (.iaload, 1)) (h0 : 0 ≤ a) (h1 : a < 20) (kk : SJ g y d (pc + 1) L (.int (ii (rm a)) :: zst) (W_PX pq0 pq1 pq2 pq3 pq4 pq5 pq6 pq7 pq8 pq9 lc fo rn rl rp td br yn yl yp xk sq oq rs rm rd ro tm sk wd ys ym yd yo lx pr be ts) bc bs Q) : SJ g y d pc L (.int (ii a) :: .ref 9 :: zst) (W_PX pq0 pq1 pq2 pq3 pq4 pq5 pq6 pq7 pq8 pq9 lc fo rn rl rp td br yn yl yp xk sq oq rs rm rd ro tm sk wd ys ym yd yo lx pr be ts) bc bs Q := z_iald hd rfl h0 h1 ⟨by omega, by omega⟩ kk
theorem as_PX_9 {a v : Int} (hd : decode y.2.1 pc = .ok (.iastore, 1)) (h0 : 0 ≤ a) (h1 : a < 20) (kk : SJ g y d (pc + 1) L zst (W_PX pq0 pq1 pq2 pq3 pq4 pq5 pq6 pq7 pq8 pq9 lc fo rn rl rp td br yn yl yp xk sq oq rs (up rm a v) rd ro tm sk wd ys ym yd yo lx pr be ts) bc bs Q) : SJ g y d pc L (.int (ii v) :: .int (ii a) :: .ref 9 :: zst) (W_PX pq0 pq1 pq2 pq3 pq4 pq5 pq6 pq7 pq8 pq9 lc fo rn rl rp td br yn yl yp xk sq oq rs rm rd ro tm sk wd ys ym yd yo lx pr be ts) bc bs Q := z_iast hd rfl h0 h1 ⟨by omega, by omega⟩ kk
theorem al_PX_10 {a : Int} (hd : decode y.2.1 pc = .ok (.iaload, 1)) (h0 : 0 ≤ a) (h1 : a < 20) (kk : SJ g y d (pc + 1) L (.int (ii (rd a)) :: zst) (W_PX pq0 pq1 pq2 pq3 pq4 pq5 pq6 pq7 pq8 pq9 lc fo rn rl rp td br yn yl yp xk sq oq rs rm rd ro tm sk wd ys ym yd yo lx pr be ts) bc bs Q) : SJ g y d pc L (.int (ii a) :: .ref 10 :: zst) (W_PX pq0 pq1 pq2 pq3 pq4 pq5 pq6 pq7 pq8 pq9 lc fo rn rl rp td br yn yl yp xk sq oq rs rm rd ro tm sk wd ys ym yd yo lx pr be ts) bc bs Q := z_iald hd rfl h0 h1 ⟨by omega, by omega⟩ kk
theorem as_PX_10 {a v : Int} (hd : decode y.2.1 pc = .ok (.iastore, 1)) (h0 : 0 ≤ a) (h1 : a < 20) (kk : SJ g y d (pc + 1) L zst (W_PX pq0 pq1 pq2 pq3 pq4 pq5 pq6 pq7 pq8 pq9 lc fo rn rl rp td br yn yl yp xk sq oq rs rm (up rd a v) ro tm sk wd ys ym yd yo lx pr be ts) bc bs Q) : SJ g y d pc L (.int (ii v) :: .int (ii a) :: .ref 10 :: zst) (W_PX pq0 pq1 pq2 pq3 pq4 pq5 pq6 pq7 pq8 pq9 lc fo rn rl rp td br yn yl yp xk sq oq rs rm rd ro tm sk wd ys ym yd yo lx pr be ts) bc bs Q := z_iast hd rfl h0 h1 ⟨by omega, by omega⟩ kk
theorem al_PX_11 {a : Int} (hd : decode y.2.1 pc = .ok (.iaload, 1)) (h0 : 0 ≤ a) (h1 : a < 20) (kk : SJ g y d (pc + 1) L (.int (ii (ro a)) :: zst) (W_PX pq0 pq1 pq2 pq3 pq4 pq5 pq6 pq7 pq8 pq9 lc fo rn rl rp td br yn yl yp xk sq oq rs rm rd ro tm sk wd ys ym yd yo lx pr be ts) bc bs Q) : SJ g y d pc L (.int (ii a) :: .ref 11 :: zst) (W_PX pq0 pq1 pq2 pq3 pq4 pq5 pq6 pq7 pq8 pq9 lc fo rn rl rp td br yn yl yp xk sq oq rs rm rd ro tm sk wd ys ym yd yo lx pr be ts) bc bs Q := z_iald hd rfl h0 h1 ⟨by omega, by omega⟩ kk
theorem as_PX_11 {a v : Int} (hd : decode y.2.1 pc = .ok (.iastore, 1)) (h0 : 0 ≤ a) (h1 : a < 20) (kk : SJ g y d (pc + 1) L zst (W_PX pq0 pq1 pq2 pq3 pq4 pq5 pq6 pq7 pq8 pq9 lc fo rn rl rp td br yn yl yp xk sq oq rs rm rd (up ro a v) tm sk wd ys ym yd yo lx pr be ts) bc bs Q) : SJ g y d pc L (.int (ii v) :: .int (ii a) :: .ref 11 :: zst) (W_PX pq0 pq1 pq2 pq3 pq4 pq5 pq6 pq7 pq8 pq9 lc fo rn rl rp td br yn yl yp xk sq oq rs rm rd ro tm sk wd ys ym yd yo lx pr be ts) bc bs Q := z_iast hd rfl h0 h1 ⟨by omega, by omega⟩ kk
theorem al_PX_12 {a : Int} (hd : decode y.2.1 pc = .ok (.iaload, 1)) (h0 : 0 ≤ a) (h1 : a < 3) (kk : SJ g y d (pc + 1) L (.int (ii (tm a)) :: zst) (W_PX pq0 pq1 pq2 pq3 pq4 pq5 pq6 pq7 pq8 pq9 lc fo rn rl rp td br yn yl yp xk sq oq rs rm rd ro tm sk wd ys ym yd yo lx pr be ts) bc bs Q) : SJ g y d pc L (.int (ii a) :: .ref 12 :: zst) (W_PX pq0 pq1 pq2 pq3 pq4 pq5 pq6 pq7 pq8 pq9 lc fo rn rl rp td br yn yl yp xk sq oq rs rm rd ro tm sk wd ys ym yd yo lx pr be ts) bc bs Q := z_iald hd rfl h0 h1 ⟨by omega, by omega⟩ kk
theorem as_PX_12 {a v : Int} (hd : decode y.2.1 pc = .ok (.iastore, 1)) (h0 : 0 ≤ a) (h1 : a < 3) (kk : SJ g y d (pc + 1) L zst (W_PX pq0 pq1 pq2 pq3 pq4 pq5 pq6 pq7 pq8 pq9 lc fo rn rl rp td br yn yl yp xk sq oq rs rm rd ro (up tm a v) sk wd ys ym yd yo lx pr be ts) bc bs Q) : SJ g y d pc L (.int (ii v) :: .int (ii a) :: .ref 12 :: zst) (W_PX pq0 pq1 pq2 pq3 pq4 pq5 pq6 pq7 pq8 pq9 lc fo rn rl rp td br yn yl yp xk sq oq rs rm rd ro tm sk wd ys ym yd yo lx pr be ts) bc bs Q := z_iast hd rfl h0 h1 ⟨by omega, by omega⟩ kk
theorem gf_PX_13_0 {idx : Nat} (hf : x_fs y.1.cls idx 0 0) (hd : decode y.2.1 pc = .ok (.getfield idx, 3)) (kk : SJ g y d (pc + 3) L (.ref 14 :: zst) (W_PX pq0 pq1 pq2 pq3 pq4 pq5 pq6 pq7 pq8 pq9 lc fo rn rl rp td br yn yl yp xk sq oq rs rm rd ro tm sk wd ys ym yd yo lx pr be ts) bc bs Q) : SJ g y d pc L (.ref 13 :: zst) (W_PX pq0 pq1 pq2 pq3 pq4 pq5 pq6 pq7 pq8 pq9 lc fo rn rl rp td br yn yl yp xk sq oq rs rm rd ro tm sk wd ys ym yd yo lx pr be ts) bc bs Q := j_getf hd hf rfl rfl kk
theorem gf_PX_13_1 {idx : Nat} (hf : x_fs y.1.cls idx 0 1) (hd : decode y.2.1 pc = .ok (.getfield idx, 3)) (kk : SJ g y d (pc + 3) L (.ref 16 :: zst) (W_PX pq0 pq1 pq2 pq3 pq4 pq5 pq6 pq7 pq8 pq9 lc fo rn rl rp td br yn yl yp xk sq oq rs rm rd ro tm sk wd ys ym yd yo lx pr be ts) bc bs Q) : SJ g y d pc L (.ref 13 :: zst) (W_PX pq0 pq1 pq2 pq3 pq4 pq5 pq6 pq7 pq8 pq9 lc fo rn rl rp td br yn yl yp xk sq oq rs rm rd ro tm sk wd ys ym yd yo lx pr be ts) bc bs Q := j_getf hd hf rfl rfl kk
theorem gf_PX_13_2 {idx : Nat} (hf : x_fs y.1.cls idx 0 2) (hd : decode y.2.1 pc = .ok (.getfield idx, 3)) (kk : SJ g y d (pc + 3) L (.int (ii td) :: zst) (W_PX pq0 pq1 pq2 pq3 pq4 pq5 pq6 pq7 pq8 pq9 lc fo rn rl rp td br yn yl yp xk sq oq rs rm rd ro tm sk wd ys ym yd yo lx pr be ts) bc bs Q) : SJ g y d pc L (.ref 13 :: zst) (W_PX pq0 pq1 pq2 pq3 pq4 pq5 pq6 pq7 pq8 pq9 lc fo rn rl rp td br yn yl yp xk sq oq rs rm rd ro tm sk wd ys ym yd yo lx pr be ts) bc bs Q := j_getf hd hf rfl rfl kk
theorem pf_PX_13_2 {idx : Nat} {v : Int} (hf : x_fs y.1.cls idx 0 2) (hd : decode y.2.1 pc = .ok (.putfield idx, 3)) (kk : SJ g y d (pc + 3) L zst (W_PX pq0 pq1 pq2 pq3 pq4 pq5 pq6 pq7 pq8 pq9 lc fo rn rl rp v br yn yl yp xk sq oq rs rm rd ro tm sk wd ys ym yd yo lx pr be ts) bc bs Q) : SJ g y d pc L (.int (ii v) :: .ref 13 :: zst) (W_PX pq0 pq1 pq2 pq3 pq4 pq5 pq6 pq7 pq8 pq9 lc fo rn rl rp td br yn yl yp xk sq oq rs rm rd ro tm sk wd ys ym yd yo lx pr be ts) bc bs Q := j_putf (ci := 0) (k := 2) hd hf ⟨_, rfl, rfl, rfl⟩ rfl (Nat.le_of_ble_eq_true rfl) x_okI kk
theorem gf_PX_14_0 {idx : Nat} (hf : x_fs y.1.cls idx 8 0) (hd : decode y.2.1 pc = .ok (.getfield idx, 3)) (kk : SJ g y d (pc + 3) L (.int (ii br) :: zst) (W_PX pq0 pq1 pq2 pq3 pq4 pq5 pq6 pq7 pq8 pq9 lc fo rn rl rp td br yn yl yp xk sq oq rs rm rd ro tm sk wd ys ym yd yo lx pr be ts) bc bs Q) : SJ g y d pc L (.ref 14 :: zst) (W_PX pq0 pq1 pq2 pq3 pq4 pq5 pq6 pq7 pq8 pq9 lc fo rn rl rp td br yn yl yp xk sq oq rs rm rd ro tm sk wd ys ym yd yo lx pr be ts) bc bs Q := j_getf hd hf rfl rfl kk
theorem pf_PX_14_0 {idx : Nat} {v : Int} (hf : x_fs y.1.cls idx 8 0) (hd : decode y.2.1 pc = .ok (.putfield idx, 3)) (hv : v = 0 ∨ v = 1) (kk : SJ g y d (pc + 3) L zst (W_PX pq0 pq1 pq2 pq3 pq4 pq5 pq6 pq7 pq8 pq9 lc fo rn rl rp td v yn yl yp xk sq oq rs rm rd ro tm sk wd ys ym yd yo lx pr be ts) bc bs Q) : SJ g y d pc L (.int (ii v) :: .ref 14 :: zst) (W_PX pq0 pq1 pq2 pq3 pq4 pq5 pq6 pq7 pq8 pq9 lc fo rn rl rp td br yn yl yp xk sq oq rs rm rd ro tm sk wd ys ym yd yo lx pr be ts) bc bs Q := j_putf (ci := 8) (k := 0) hd hf ⟨_, rfl, rfl, rfl⟩ rfl (Nat.le_of_ble_eq_true rfl) (by rcases hv with rfl | rfl; exact x_ok0; exact x_ok1) kk
theorem gf_PX_14_1 {idx : Nat} (hf : x_fs y.1.cls idx 8 1) (hd : decode y.2.1 pc = .ok (.getfield idx, 3)) (kk : SJ g y d (pc + 3) L (.ref 15 :: zst) (W_PX pq0 pq1 pq2 pq3 pq4 pq5 pq6 pq7 pq8 pq9 lc fo rn rl rp td br yn yl yp xk sq oq rs rm rd ro tm sk wd ys ym yd yo lx pr be ts) bc bs Q) : SJ g y d pc L (.ref 14 :: zst) (W_PX pq0 pq1 pq2 pq3 pq4 pq5 pq6 pq7 pq8 pq9 lc fo rn rl rp td br yn yl yp xk sq oq rs rm rd ro tm sk wd ys ym yd yo lx pr be ts) bc bs Q := j_getf hd hf rfl rfl kk
theorem al_PX_15 {a : Int} (hd : decode y.2.1 pc = .ok (.iaload, 1)) (h0 : 0 ≤ a) (h1 : a < 51) (kk : SJ g y d (pc + 1) L (.int (ii (sk a)) :: zst) (W_PX pq0 pq1 pq2 pq3 pq4 pq5 pq6 pq7 pq8 pq9 lc fo rn rl rp td br yn yl yp xk sq oq rs rm rd ro tm sk wd ys ym yd yo lx pr be ts) bc bs Q) : SJ g y d pc L (.int (ii a) :: .ref 15 :: zst) (W_PX pq0 pq1 pq2 pq3 pq4 pq5 pq6 pq7 pq8 pq9 lc fo rn rl rp td br yn yl yp xk sq oq rs rm rd ro tm sk wd ys ym yd yo lx pr be ts) bc bs Q := z_iald hd rfl h0 h1 ⟨by omega, by omega⟩ kk
theorem as_PX_15 {a v : Int} (hd : decode y.2.1 pc = .ok (.iastore, 1)) (h0 : 0 ≤ a) (h1 : a < 51) (kk : SJ g y d (pc + 1) L zst (W_PX pq0 pq1 pq2 pq3 pq4 pq5 pq6 pq7 pq8 pq9 lc fo rn rl rp td br yn yl yp xk sq oq rs rm rd ro tm (up sk a v) wd ys ym yd yo lx pr be ts) bc bs Q) : SJ g y d pc L (.int (ii v) :: .int (ii a) :: .ref 15 :: zst) (W_PX pq0 pq1 pq2 pq3 pq4 pq5 pq6 pq7 pq8 pq9 lc fo rn rl rp td br yn yl yp xk sq oq rs rm rd ro tm sk wd ys ym yd yo lx pr be ts) bc bs Q := z_iast hd rfl h0 h1 ⟨by omega, by omega⟩ kk
theorem al_PX_16 {a : Int} (hd : decode y.2.1 pc = .ok (.iaload, 1)) (h0 : 0 ≤ a) (h1 : a < 52) (kk : SJ g y d (pc + 1) L (.int (ii (wd a)) :: zst) (W_PX pq0 pq1 pq2 pq3 pq4 pq5 pq6 pq7 pq8 pq9 lc fo rn rl rp td br yn yl yp xk sq oq rs rm rd ro tm sk wd ys ym yd yo lx pr be ts) bc bs Q) : SJ g y d pc L (.int (ii a) :: .ref 16 :: zst) (W_PX pq0 pq1 pq2 pq3 pq4 pq5 pq6 pq7 pq8 pq9 lc fo rn rl rp td br yn yl yp xk sq oq rs rm rd ro tm sk wd ys ym yd yo lx pr be ts) bc bs Q := z_iald hd rfl h0 h1 ⟨by omega, by omega⟩ kk
theorem as_PX_16 {a v : Int} (hd : decode y.2.1 pc = .ok (.iastore, 1)) (h0 : 0 ≤ a) (h1 : a < 52) (kk : SJ g y d (pc + 1) L zst (W_PX pq0 pq1 pq2 pq3 pq4 pq5 pq6 pq7 pq8 pq9 lc fo rn rl rp td br yn yl yp xk sq oq rs rm rd ro tm sk (up wd a v) ys ym yd yo lx pr be ts) bc bs Q) : SJ g y d pc L (.int (ii v) :: .int (ii a) :: .ref 16 :: zst) (W_PX pq0 pq1 pq2 pq3 pq4 pq5 pq6 pq7 pq8 pq9 lc fo rn rl rp td br yn yl yp xk sq oq rs rm rd ro tm sk wd ys ym yd yo lx pr be ts) bc bs Q := z_iast hd rfl h0 h1 ⟨by omega, by omega⟩ kk
theorem gf_PX_17_0 {idx : Nat} (hf : x_fs y.1.cls idx 5 0) (hd : decode y.2.1 pc = .ok (.getfield idx, 3)) (kk : SJ g y d (pc + 3) L (.ref 18 :: zst) (W_PX pq0 pq1 pq2 pq3 pq4 pq5 pq6 pq7 pq8 pq9 lc fo rn rl rp td br yn yl yp xk sq oq rs rm rd ro tm sk wd ys ym yd yo lx pr be ts) bc bs Q) : SJ g y d pc L (.ref 17 :: zst) (W_PX pq0 pq1 pq2 pq3 pq4 pq5 pq6 pq7 pq8 pq9 lc fo rn rl rp td br yn yl yp xk sq oq rs rm rd ro tm sk wd ys ym yd yo lx pr be ts) bc bs Q := j_getf hd hf rfl rfl kk
theorem gf_PX_17_1 {idx : Nat} (hf : x_fs y.1.cls idx 5 1) (hd : decode y.2.1 pc = .ok (.getfield idx, 3)) (kk : SJ g y d (pc + 3) L (.int (ii yn) :: zst) (W_PX pq0 pq1 pq2 pq3 pq4 pq5 pq6 pq7 pq8 pq9 lc fo rn rl rp td br yn yl yp xk sq oq rs rm rd ro tm sk wd ys ym yd yo lx pr be ts) bc bs Q) : SJ g y d pc L (.ref 17 :: zst) (W_PX pq0 pq1 pq2 pq3 pq4 pq5 pq6 pq7 pq8 pq9 lc fo rn rl rp td br yn yl yp xk sq oq rs rm rd ro tm sk wd ys ym yd yo lx pr be ts) bc bs Q := j_getf hd hf rfl rfl kk
theorem pf_PX_17_1 {idx : Nat} {v : Int} (hf : x_fs y.1.cls idx 5 1) (hd : decode y.2.1 pc = .ok (.putfield idx, 3)) (kk : SJ g y d (pc + 3) L zst (W_PX pq0 pq1 pq2 pq3 pq4 pq5 pq6 pq7 pq8 pq9 lc fo rn rl rp td br v yl yp xk sq oq rs rm rd ro tm sk wd ys ym yd yo lx pr be ts) bc bs Q) : SJ g y d pc L (.int (ii v) :: .ref 17 :: zst) (W_PX pq0 pq1 pq2 pq3 pq4 pq5 pq6 pq7 pq8 pq9 lc fo rn rl rp td br yn yl yp xk sq oq rs rm rd ro tm sk wd ys ym yd yo lx pr be ts) bc bs Q := j_putf (ci := 5) (k := 1) hd hf ⟨_, rfl, rfl, rfl⟩ rfl (Nat.le_of_ble_eq_true rfl) x_okI kk
theorem gf_PX_17_2 {idx : Nat} (hf : x_fs y.1.cls idx 5 2) (hd : decode y.2.1 pc = .ok (.getfield idx, 3)) (kk : SJ g y d (pc + 3) L (.ref 19 :: zst) (W_PX pq0 pq1 pq2 pq3 pq4 pq5 pq6 pq7 pq8 pq9 lc fo rn rl rp td br yn yl yp xk sq oq rs rm rd ro tm sk wd ys ym yd yo lx pr be ts) bc bs Q) : SJ g y d pc L (.ref 17 :: zst) (W_PX pq0 pq1 pq2 pq3 pq4 pq5 pq6 pq7 pq8 pq9 lc fo rn rl rp td br yn yl yp xk sq oq rs rm rd ro tm sk wd ys ym yd yo lx pr be ts) bc bs Q := j_getf hd hf rfl rfl kk
theorem gf_PX_17_3 {idx : Nat} (hf : x_fs y.1.cls idx 5 3) (hd : decode y.2.1 pc = .ok (.getfield idx, 3)) (kk : SJ g y d (pc + 3) L (.ref 20 :: zst) (W_PX pq0 pq1 pq2 pq3 pq4 pq5 pq6 pq7 pq8 pq9 lc fo rn rl rp td br yn yl yp xk sq oq rs rm rd ro tm sk wd ys ym yd yo lx pr be ts) bc bs Q) : SJ g y d pc L (.ref 17 :: zst) (W_PX pq0 pq1 pq2 pq3 pq4 pq5 pq6 pq7 pq8 pq9 lc fo rn rl rp td br yn yl yp xk sq oq rs rm rd ro tm sk wd ys ym yd yo lx pr be ts) bc bs Q := j_getf hd hf rfl rfl kk
theorem gf_PX_17_4 {idx : Nat} (hf : x_fs y.1.cls idx 5 4) (hd : decode y.2.1 pc = .ok (.getfield idx, 3)) (kk : SJ g y d (pc + 3) L (.ref 21 :: zst) (W_PX pq0 pq1 pq2 pq3 pq4 pq5 pq6 pq7 pq8 pq9 lc fo rn rl rp td br yn yl yp xk sq oq rs rm rd ro tm sk wd ys ym yd yo lx pr be ts) bc bs Q) : SJ g y d pc L (.ref 17 :: zst) (W_PX pq0 pq1 pq2 pq3 pq4 pq5 pq6 pq7 pq8 pq9 lc fo rn rl rp td br yn yl yp xk sq oq rs rm rd ro tm sk wd ys ym yd yo lx pr be ts) bc bs Q := j_getf hd hf rfl rfl kk
theorem gf_PX_17_5 {idx : Nat} (hf : x_fs y.1.cls idx 5 5) (hd : decode y.2.1 pc = .ok (.getfield idx, 3)) (kk : SJ g y d (pc + 3) L (.int (ii yl) :: zst) (W_PX pq0 pq1 pq2 pq3 pq4 pq5 pq6 pq7 pq8 pq9 lc fo rn rl rp td br yn yl yp xk sq oq rs rm rd ro tm sk wd ys ym yd yo lx pr be ts) bc bs Q) : SJ g y d pc L (.ref 17 :: zst) (W_PX pq0 pq1 pq2 pq3 pq4 pq5 pq6 pq7 pq8 pq9 lc fo rn rl rp td br yn yl yp xk sq oq rs rm rd ro tm sk wd ys ym yd yo lx pr be ts) bc bs Q := j_getf hd hf rfl rfl kk
theorem pf_PX_17_5 {idx : Nat} {v : Int} (hf : x_fs y.1.cls idx 5 5) (hd : decode y.2.1 pc = .ok (.putfield idx, 3)) (kk : SJ g y d (pc + 3) L zst (W_PX pq0 pq1 pq2 pq3 pq4 pq5 pq6 pq7 pq8 pq9 lc fo rn rl rp td br yn v yp xk sq oq rs rm rd ro tm sk wd ys ym yd yo lx pr be ts) bc bs Q) : SJ g y d pc L (.int (ii v) :: .ref 17 :: zst) (W_PX pq0 pq1 pq2 pq3 pq4 pq5 pq6 pq7 pq8 pq9 lc fo rn rl rp td br yn yl yp xk sq oq rs rm rd ro tm sk wd ys ym yd yo lx pr be ts) bc bs Q := j_putf (ci := 5) (k := 5) hd hf ⟨_, rfl, rfl, rfl⟩ rfl (Nat.le_of_ble_eq_true rfl) x_okI kk
theorem gf_PX_17_6 {idx : Nat} (hf : x_fs y.1.cls idx 5 6) (hd : decode y.2.1 pc = .ok (.getfield idx, 3)) (kk : SJ g y d (pc + 3) L (.int (ii yp) :: zst) (W_PX pq0 pq1 pq2 pq3 pq4 pq5 pq6 pq7 pq8 pq9 lc fo rn rl rp td br yn yl yp xk sq oq rs rm rd ro tm sk wd ys ym yd yo lx pr be ts) bc bs Q) : SJ g y d pc L (.ref 17 :: zst) (W_PX pq0 pq1 pq2 pq3 pq4 pq5 pq6 pq7 pq8 pq9 lc fo rn rl rp td br yn yl yp xk sq oq rs rm rd ro tm sk wd ys ym yd yo lx pr be ts) bc bs Q := j_getf hd hf rfl rfl kk
theorem pf_PX_17_6 {idx : Nat} {v : Int} (hf : x_fs y.1.cls idx 5 6) (hd : decode y.2.1 pc = .ok (.putfield idx, 3)) (hv : v = 0 ∨ v = 1) (kk : SJ g y d (pc + 3) L zst (W_PX pq0 pq1 pq2 pq3 pq4 pq5 pq6 pq7 pq8 pq9 lc fo rn rl rp td br yn yl v xk sq oq rs rm rd ro tm sk wd ys ym yd yo lx pr be ts) bc bs Q) : SJ g y d pc L (.int (ii v) :: .ref 17 :: zst) (W_PX pq0 pq1 pq2 pq3 pq4 pq5 pq6 pq7 pq8 pq9 lc fo rn rl rp td br yn yl yp xk sq oq rs rm rd ro tm sk wd ys ym yd yo lx pr be ts) bc bs Q := j_putf (ci := 5) (k := 6) hd hf ⟨_, rfl, rfl, rfl⟩ rfl (Nat.le_of_ble_eq_true rfl) (by rcases hv with rfl | rfl; exact x_ok0; exact x_ok1) kk
theorem al_PX_18 {a : Int} (hd : decode y.2.1 pc = .ok (.iaload, 1)) (h0 : 0 ≤ a) (h1 : a < 20) (kk : SJ g y d (pc + 1) L (.int (ii (ys a)) :: zst) (W_PX pq0 pq1 pq2 pq3 pq4 pq5 pq6 pq7 pq8 pq9 lc fo rn rl rp td br yn yl yp xk sq oq rs rm rd ro tm sk wd ys ym yd yo lx pr be ts) bc bs Q) : SJ g y d pc L (.int (ii a) :: .ref 18 :: zst) (W_PX pq0 pq1 pq2 pq3 pq4 pq5 pq6 pq7 pq8 pq9 lc fo rn rl rp td br yn yl yp xk sq oq rs rm rd ro tm sk wd ys ym yd yo lx pr be ts) bc bs Q := z_iald hd rfl h0 h1 ⟨by omega, by omega⟩ kk
theorem as_PX_18 {a v : Int} (hd : decode y.2.1 pc = .ok (.iastore, 1)) (h0 : 0 ≤ a) (h1 : a < 20) (kk : SJ g y d (pc + 1) L zst (W_PX pq0 pq1 pq2 pq3 pq4 pq5 pq6 pq7 pq8 pq9 lc fo rn rl rp td br yn yl yp xk sq oq rs rm rd ro tm sk wd (up ys a v) ym yd yo lx pr be ts) bc bs Q) : SJ g y d pc L (.int (ii v) :: .int (ii a) :: .ref 18 :: zst) (W_PX pq0 pq1 pq2 pq3 pq4 pq5 pq6 pq7 pq8 pq9 lc fo rn rl rp td br yn yl yp xk sq oq rs rm rd ro tm sk wd ys ym yd yo lx pr be ts) bc bs Q := z_iast hd rfl h0 h1 ⟨by omega, by omega⟩ kk
theorem al_PX_19 {a : Int} (hd : decode y.2.1 pc = .ok (.iaload, 1)) (h0 : 0 ≤ a) (h1 : a < 20) (kk : SJ g y d (pc + 1) L (.int (ii (ym a)) :: zst) (W_PX pq0 pq1 pq2 pq3 pq4 pq5 pq6 pq7 pq8 pq9 lc fo rn rl rp td br yn yl yp xk sq oq rs rm rd ro tm sk wd ys ym yd yo lx pr be ts) bc bs Q) : SJ g y d pc L (.int (ii a) :: .ref 19 :: zst) (W_PX pq0 pq1 pq2 pq3 pq4 pq5 pq6 pq7 pq8 pq9 lc fo rn rl rp td br yn yl yp xk sq oq rs rm rd ro tm sk wd ys ym yd yo lx pr be ts) bc bs Q := z_iald hd rfl h0 h1 ⟨by omega, by omega⟩ kk
theorem as_PX_19 {a v : Int} (hd : decode y.2.1 pc = .ok (.iastore, 1)) (h0 : 0 ≤ a) (h1 : a < 20) (kk : SJ g y d (pc + 1) L zst (W_PX pq0 pq1 pq2 pq3 pq4 pq5 pq6 pq7 pq8 pq9 lc fo rn rl rp td br yn yl yp xk sq oq rs rm rd ro tm sk wd ys (up ym a v) yd yo lx pr be ts) bc bs Q) : SJ g y d pc L (.int (ii v) :: .int (ii a) :: .ref 19 :: zst) (W_PX pq0 pq1 pq2 pq3 pq4 pq5 pq6 pq7 pq8 pq9 lc fo rn rl rp td br yn yl yp xk sq oq rs rm rd ro tm sk wd ys ym yd yo lx pr be ts) bc bs Q := z_iast hd rfl h0 h1 ⟨by omega, by omega⟩ kk
theorem al_PX_20 {a : Int} (hd : decode y.2.1 pc = .ok (.iaload, 1)) (h0 : 0 ≤ a) (h1 : a < 20) (kk : SJ g y d (pc + 1) L (.int (ii (yd a)) :: zst) (W_PX pq0 pq1 pq2 pq3 pq4 pq5 pq6 pq7 pq8 pq9 lc fo rn rl rp td br yn yl yp xk sq oq rs rm rd ro tm sk wd ys ym yd yo lx pr be ts) bc bs Q) : SJ g y d pc L (.int (ii a) :: .ref 20 :: zst) (W_PX pq0 pq1 pq2 pq3 pq4 pq5 pq6 pq7 pq8 pq9 lc fo rn rl rp td br yn yl yp xk sq oq rs rm rd ro tm sk wd ys ym yd yo lx pr be ts) bc bs Q := z_iald hd rfl h0 h1 ⟨by omega, by omega⟩ kk
theorem as_PX_20 {a v : Int} (hd : decode y.2.1 pc = .ok (.iastore, 1)) (h0 : 0 ≤ a) (h1 : a < 20) (kk : SJ g y d (pc + 1) L zst (W_PX pq0 pq1 pq2 pq3 pq4 pq5 pq6 pq7 pq8 pq9 lc fo rn rl rp td br yn yl yp xk sq oq rs rm rd ro tm sk wd ys ym (up yd a v) yo lx pr be ts) bc bs Q) : SJ g y d pc L (.int (ii v) :: .int (ii a) :: .ref 20 :: zst) (W_PX pq0 pq1 pq2 pq3 pq4 pq5 pq6 pq7 pq8 pq9 lc fo rn rl rp td br yn yl yp xk sq oq rs rm rd ro tm sk wd ys ym yd yo lx pr be ts) bc bs Q := z_iast hd rfl h0 h1 ⟨by omega, by omega⟩ kk
theorem al_PX_21 {a : Int} (hd : decode y.2.1 pc = .ok (.iaload, 1)) (h0 : 0 ≤ a) (h1 : a < 20) (kk : SJ g y d (pc + 1) L (.int (ii (yo a)) :: zst) (W_PX pq0 pq1 pq2 pq3 pq4 pq5 pq6 pq7 pq8 pq9 lc fo rn rl rp td br yn yl yp xk sq oq rs rm rd ro tm sk wd ys ym yd yo lx pr be ts) bc bs Q) : SJ g y d pc L (.int (ii a) :: .ref 21 :: zst) (W_PX pq0 pq1 pq2 pq3 pq4 pq5 pq6 pq7 pq8 pq9 lc fo rn rl rp td br yn yl yp xk sq oq rs rm rd ro tm sk wd ys ym yd yo lx pr be ts) bc bs Q := z_iald hd rfl h0 h1 ⟨by omega, by omega⟩ kk
theorem as_PX_21 {a v : Int} (hd : decode y.2.1 pc = .ok (.iastore, 1)) (h0 : 0 ≤ a) (h1 : a < 20) (kk : SJ g y d (pc + 1) L zst (W_PX pq0 pq1 pq2 pq3 pq4 pq5 pq6 pq7 pq8 pq9 lc fo rn rl rp td br yn yl yp xk sq oq rs rm rd ro tm sk wd ys ym yd (up yo a v) lx pr be ts) bc bs Q) : SJ g y d pc L (.int (ii v) :: .int (ii a) :: .ref 21 :: zst) (W_PX pq0 pq1 pq2 pq3 pq4 pq5 pq6 pq7 pq8 pq9 lc fo rn rl rp td br yn yl yp xk sq oq rs rm rd ro tm sk wd ys ym yd yo lx pr be ts) bc bs Q := z_iast hd rfl h0 h1 ⟨by omega, by omega⟩ kk
end WR_PX
theorem PX_pr {pq0 pq1 pq2 pq3 pq4 pq5 pq6 pq7 pq8 pq9 lc fo rn rl rp td br yn yl yp : Int} {xk sq oq rs rm rd ro tm sk wd ys ym yd yo : Int → Int} {lx : Nat → Option Nat} {pr be : Int → Int → Int} {ts : List TD} {a : Int} (h0 : 0 ≤ a) (h1 : a < 6) : (W_PX pq0 pq1 pq2 pq3 pq4 pq5 pq6 pq7 pq8 pq9 lc fo rn rl rp td br yn yl yp xk sq oq rs rm rd ro tm sk wd ys ym yd yo lx pr be ts)[23 + a.toNat]? = some (.inl (0, 21, .inl (ia (pr a)))) := tblI_at rfl h0 h1
theorem PX_prs {pq0 pq1 pq2 pq3 pq4 pq5 pq6 pq7 pq8 pq9 lc fo rn rl rp td br yn yl yp : Int} {xk sq oq rs rm rd ro tm sk wd ys ym yd yo : Int → Int} {lx : Nat → Option Nat} {pr be : Int → Int → Int} {ts : List TD} {a : Int} {x : Int → Int} (h0 : 0 ≤ a) (h1 : a < 6) : (W_PX pq0 pq1 pq2 pq3 pq4 pq5 pq6 pq7 pq8 pq9 lc fo rn rl rp td br yn yl yp xk sq oq rs rm rd ro tm sk wd ys ym yd yo lx pr be ts).set (23 + a.toNat) (.inl (0, 21, .inl (ia x))) = (W_PX pq0 pq1 pq2 pq3 pq4 pq5 pq6 pq7 pq8 pq9 lc fo rn rl rp td br yn yl yp xk sq oq rs rm rd ro tm sk wd ys ym yd yo lx (upR pr a x) be ts) := tblI_set rfl h0 h1
theorem PX_be {pq0 pq1 pq2 pq3 pq4 pq5 pq6 pq7 pq8 pq9 lc fo rn rl rp td br yn yl yp : Int} {xk sq oq rs rm rd ro tm sk wd ys ym yd yo : Int → Int} {lx : Nat → Option Nat} {pr be : Int → Int → Int} {ts : List TD} {a : Int} (h0 : 0 ≤ a) (h1 : a < 22) : (W_PX pq0 pq1 pq2 pq3 pq4 pq5 pq6 pq7 pq8 pq9 lc fo rn rl rp td br yn yl yp xk sq oq rs rm rd ro tm sk wd ys ym yd yo lx pr be ts)[29 + a.toNat]? = some (.inl (0, 22, .inl (ia (be a)))) := tblI_at2 rfl h0 h1
theorem PX_bes {pq0 pq1 pq2 pq3 pq4 pq5 pq6 pq7 pq8 pq9 lc fo rn rl rp td br yn yl yp : Int} {xk sq oq rs rm rd ro tm sk wd ys ym yd yo : Int → Int} {lx : Nat → Option Nat} {pr be : Int → Int → Int} {ts : List TD} {a : Int} {x : Int → Int} (h0 : 0 ≤ a) (h1 : a < 22) : (W_PX pq0 pq1 pq2 pq3 pq4 pq5 pq6 pq7 pq8 pq9 lc fo rn rl rp td br yn yl yp xk sq oq rs rm rd ro tm sk wd ys ym yd yo lx pr be ts).set (29 + a.toNat) (.inl (0, 22, .inl (ia x))) = (W_PX pq0 pq1 pq2 pq3 pq4 pq5 pq6 pq7 pq8 pq9 lc fo rn rl rp td br yn yl yp xk sq oq rs rm rd ro tm sk wd ys ym yd yo lx pr (upR be a x) ts) := tblI_set2 rfl h0 h1
theorem PX_tx {pq0 pq1 pq2 pq3 pq4 pq5 pq6 pq7 pq8 pq9 lc fo rn rl rp td br yn yl yp : Int} {xk sq oq rs rm rd ro tm sk wd ys ym yd yo : Int → Int} {lx : Nat → Option Nat} {pr be : Int → Int → Int} {ts : List TD} {j m : Nat} {t : TD} (hj : ts[j]? = some t) (hm : m < 8) : (W_PX pq0 pq1 pq2 pq3 pq4 pq5 pq6 pq7 pq8 pq9 lc fo rn rl rp td br yn yl yp xk sq oq rs rm rd ro tm sk wd ys ym yd yo lx pr be ts)[51 + 8 * j + m]? = (tdC (51 + 8 * j) t)[m]? := by
  have key : ∀ (cs A B : List xM), cs.length = 23 → A.length = 6 → B.length = 22 → (cs ++ (A ++ (B ++ TX 51 ts)))[51 + 8 * j + m]? = (tdC (51 + 8 * j) t)[m]? := by
    intro cs A B h1 h2 h3
    rw [List.getElem?_append_right (by omega), List.getElem?_append_right (by omega), List.getElem?_append_right (by omega), show 51 + 8 * j + m - cs.length - A.length - B.length = 8 * j + m by omega]
    exact TX_at ts 51 j m hj hm
  exact key _ _ _ rfl tblI_len tblI_len
/-! mending -/
def cB (pr : Int → Int → Int) (s p : Int) : Int := if pr s p = 100000000 then 100000000 else pr s p * 100 + 1
theorem cB_R {pr : Int → Int → Int} {s p : Int} (h : 0 ≤ pr s p ∧ (pr s p ≤ 99 ∨ pr s p = 100000000)) : 0 ≤ cB pr s p ∧ cB pr s p ≤ 100000000 := by
  unfold cB
  split <;> omega
def moG (rs : Int → Int) (pr be : Int → Int → Int) (a b q : Int) : Int := if q < b ∧ rs q = rs a + 3 then min (be (a + 1) q + cB pr (rs a + 3) q + be q b) (be (a + 1) q + be (q + 1) b) else be (a + 1) q + cB pr (rs a + 3) q + be q b
def moR (rs : Int → Int) (pr be : Int → Int → Int) (a b : Int) : Int := mnF (moG rs pr be a b) (b + 1 - (a + 1)).toNat (a + 1) 100000000
def mrG (rs : Int → Int) (pr be : Int → Int → Int) (a b q : Int) : Int := if 3 ≤ rs q ∧ rs q ≤ 5 then cB pr (kd (rs q)) a + be a q + be (q + 1) b else 100000000
def mrI (rs : Int → Int) (pr be : Int → Int → Int) (a b : Int) : Int := if 6 ≤ rs a then be (a + 1) b else if rs a < 3 then moR rs pr be a b else 100000000
def mrR (rs : Int → Int) (pr be : Int → Int → Int) (a b : Int) : Int := min (mnF (mrG rs pr be a b) (b - a).toNat a (mrI rs pr be a b)) 100000000
def srG (rs : Int → Int) (be : Int → Int → Int) (a b q : Int) : Int := if rs q = rs a + 3 then be (a + 1) q + be (q + 1) b else 1000000
def srR (rs sq : Int → Int) (be : Int → Int → Int) (a b : Int) : Int := if rs a < 3 then mnF (srG rs be a b) (b - (a + 1)).toNat (a + 1) (be (a + 1) b + (if 6 ≤ rs a then 0 else sq a)) else be (a + 1) b + (if 6 ≤ rs a then 0 else sq a)
abbrev cmP (rs : Int → Int) (be : Int → Int → Int) (a b q : Int) : Prop := rs q = rs a + 3 ∧ be (a + 1) q + be (q + 1) b = be a b
def cmR (rs : Int → Int) (be : Int → Int → Int) (a b : Int) : Int := fsF (cmP rs be a b) (b - (a + 1)).toNat (a + 1)
theorem t_Pap_newSign {g : Bool} {d : Nat} {Q : List xM → Option Value → Prop} {pq0 pq1 pq2 pq3 pq4 pq5 pq6 pq7 pq8 pq9 lc fo rn rl rp td br yn yl yp : Int} {xk sq oq rs rm rd ro tm sk wd ys ym yd yo : Int → Int} {lx : Nat → Option Nat} {pr be : Int → Int → Int} {ts : List TD} {s p : Int} (s0 : 0 ≤ s) (s1 : s < 6) (p0 : 0 ≤ p) (p1 : p ≤ 20) (hp : 0 ≤ pr s p ∧ (pr s p ≤ 99 ∨ pr s p = 100000000)) (hQ : Q (W_PX pq0 pq1 pq2 pq3 pq4 pq5 pq6 pq7 pq8 pq9 lc fo rn rl rp td br yn yl yp xk sq oq rs rm rd ro tm sk wd ys ym yd yo lx pr be ts) (some (.int (ii (cB pr s p))))) : CT g m_Pap_newSign d [.ref 0, .int (ii s), .int (ii p)] (W_PX pq0 pq1 pq2 pq3 pq4 pq5 pq6 pq7 pq8 pq9 lc fo rn rl rp td br yn yl yp xk sq oq rs rm rd ro tm sk wd ys ym yd yo lx pr be ts) 0 0 Q := by
  refine CT.of (by decide) (Nat.le_of_ble_eq_true rfl) ?_
  show SJ _ _ _ _ [some (.ref 0), some (.int (ii s)), some (.int (ii p))] [] _ _ _ _
  refine j_aload_n d_Pap_newSign_0 rfl ?_
  refine gf_PX_0_13 f_Pap_55 d_Pap_newSign_1 ?_
  refine j_iload_n d_Pap_newSign_4 rfl ?_
  refine z_aald d_Pap_newSign_5 rfl (by decide) (by omega) (by omega) (by omega) ?_
  refine j_iload_n d_Pap_newSign_6 rfl ?_
  refine z_iald d_Pap_newSign_7 (PX_pr (by omega) (by omega)) (by omega) (by omega) (by omega) ?_
  refine z_ldc (w := 100000000) d_Pap_newSign_8 k_Pap_86 (by decide) ?_
  refine z_icmp_ne (t := 18) d_Pap_newSign_10 (by decide) (by first | omega | exact hw _ | exact hx _ _ | assumption) (by first | omega | exact hw _ | exact hx _ _ | assumption) (fun h10 => ?_) (fun h10 => ?_)
  · refine j_aload_n d_Pap_newSign_18 rfl ?_
    refine gf_PX_0_13 f_Pap_55 d_Pap_newSign_19 ?_
    refine j_iload_n d_Pap_newSign_22 rfl ?_
    refine z_aald d_Pap_newSign_23 rfl (by decide) (by omega) (by omega) (by omega) ?_
    refine j_iload_n d_Pap_newSign_24 rfl ?_
    refine z_iald d_Pap_newSign_25 (PX_pr (by omega) (by omega)) (by omega) (by omega) (by omega) ?_
    refine z_bipush d_Pap_newSign_26 (by decide) ?_
    refine z_imul d_Pap_newSign_28 ?_
    refine z_iconst d_Pap_newSign_29 ?_
    refine z_iadd d_Pap_newSign_30 ?_
    exact z_iret rfl d_Pap_newSign_31 (by unfold cB; first | rw [if_pos (by omega)] | rw [if_neg (by omega)]) hQ
  · refine z_ldc (w := 100000000) d_Pap_newSign_13 k_Pap_86 (by decide) ?_
    refine j_goto (t := 31) d_Pap_newSign_15 (by decide) ?_
    exact z_iret rfl d_Pap_newSign_31 (by unfold cB; first | rw [if_pos (by omega)] | rw [if_neg (by omega)]) hQ
theorem lp_mop {g : Bool} {d : Nat} {Q : List xM → Option Value → Prop} {pq0 pq1 pq2 pq3 pq4 pq5 pq6 pq7 pq8 pq9 lc fo rn rl rp td br yn yl yp : Int} {xk sq oq rs rm rd ro tm sk wd ys ym yd yo : Int → Int} {lx : Nat → Option Nat} {pr be : Int → Int → Int} {ts : List TD} {n a b : Int} (n1_ : n ≤ 20) (a0_ : 0 ≤ a) (ab_ : a < b) (bn_ : b ≤ n) (hs : ∀ j, 0 ≤ j → j < n → 0 ≤ rs j ∧ rs j ≤ 11) (hP : ∀ s p, 0 ≤ s → s < 6 → 0 ≤ p → p ≤ n → 0 ≤ pr s p ∧ (pr s p ≤ 99 ∨ pr s p = 100000000)) (hB : ∀ i j, a ≤ i → i ≤ j → j ≤ b → (i = a → j < b) → 0 ≤ be i j ∧ be i j ≤ 100000000) {R : Int} (ho : rs a < 3) (hQ : Q (W_PX pq0 pq1 pq2 pq3 pq4 pq5 pq6 pq7 pq8 pq9 lc fo rn rl rp td br yn yl yp xk sq oq rs rm rd ro tm sk wd ys ym yd yo lx pr be ts) (some (.int (ii R)))) : ∀ (nn : Nat) (k : Int) (least : Int), (b + 1 - k).toNat = nn → a + 1 ≤ k → k ≤ b + 1 → 0 ≤ least → least ≤ 100000000 → mnF (moG rs pr be a b) (b + 1 - k).toNat k least = R → SJ g m_Pap_mendOpening (d + 1) 16 [some (.ref 0), some (.ref 6), some (.int (ii a)), some (.int (ii b)), some (.int (ii ((rs a + 3)))), some (.int (ii least)), some (.int (ii k)), none] [] (W_PX pq0 pq1 pq2 pq3 pq4 pq5 pq6 pq7 pq8 pq9 lc fo rn rl rp td br yn yl yp xk sq oq rs rm rd ro tm sk wd ys ym yd yo lx pr be ts) 0 0 Q := by
  intro nn
  induction nn using Nat.strongRecOn with
  | ind nn ih =>
  intro k least hn k0 k1 l0 l1 hF
  have hsa := hs a a0_ (by omega)
  refine j_iload d_Pap_mendOpening_16 rfl ?_
  refine j_iload_n d_Pap_mendOpening_18 rfl ?_
  refine z_icmp_gt (t := 105) d_Pap_mendOpening_19 (by decide) (by first | omega | exact hw _ | exact hx _ _ | assumption) (by first | omega | exact hw _ | exact hx _ _ | assumption) (fun h19 => ?_) (fun h19 => ?_)
  · rw [mnF_0 (by omega)] at hF
    subst hF
    refine j_iload d_Pap_mendOpening_105 rfl ?_
    exact z_iret rfl d_Pap_mendOpening_107 (by first | rfl | omega | simp_all) hQ
  · rw [mnF_s (by omega)] at hF
    have hb1 := hB (a + 1) k (by omega) (by omega) (by omega) (by omega)
    have hb2 := hB k b (by omega) (by omega) (by omega) (by omega)
    have hcb := cB_R (hP (rs a + 3) k (by omega) (by omega) (by omega) (by omega))
    refine j_aload_n d_Pap_mendOpening_22 rfl ?_
    refine gf_PX_0_14 f_Pap_58 d_Pap_mendOpening_23 ?_
    refine j_iload_n d_Pap_mendOpening_26 rfl ?_
    refine z_iconst d_Pap_mendOpening_27 ?_
    refine z_iadd d_Pap_mendOpening_28 ?_
    refine z_aald d_Pap_mendOpening_29 rfl (by decide) (by omega) (by omega) (by omega) ?_
    refine j_iload d_Pap_mendOpening_30 rfl ?_
    refine z_iald d_Pap_mendOpening_32 (PX_be (by omega) (by omega)) (by omega) (by omega) (by omega) ?_
    refine j_istore d_Pap_mendOpening_33 (by decide) ?_
    show SJ _ _ _ _ [_, _, _, _, _, _, _, _] _ _ _ _ _
    refine j_iload d_Pap_mendOpening_35 rfl ?_
    refine j_iload d_Pap_mendOpening_37 rfl ?_
    refine j_aload_n d_Pap_mendOpening_39 rfl ?_
    refine j_iload d_Pap_mendOpening_40 rfl ?_
    refine j_iload d_Pap_mendOpening_42 rfl ?_
    refine v_call2 d_Pap_mendOpening_44 c_Pap_126 rfl ⟨_, rfl, rfl⟩ (Nat.le_of_ble_eq_true rfl) (t_Pap_newSign (by omega) (by omega) (by omega) (by omega) (hP _ _ (by omega) (by omega) (by omega) (by omega)) ?_)
    refine z_iadd d_Pap_mendOpening_47 ?_
    refine j_aload_n d_Pap_mendOpening_48 rfl ?_
    refine gf_PX_0_14 f_Pap_58 d_Pap_mendOpening_49 ?_
    refine j_iload d_Pap_mendOpening_52 rfl ?_
    refine z_aald d_Pap_mendOpening_54 rfl (by decide) (by omega) (by omega) (by omega) ?_
    refine j_iload_n d_Pap_mendOpening_55 rfl ?_
    refine z_iald d_Pap_mendOpening_56 (PX_be (by omega) (by omega)) (by omega) (by omega) (by omega) ?_
    refine z_iadd d_Pap_mendOpening_57 ?_
    refine z_min d_Pap_mendOpening_58 mm_Pap_130 (Nat.le_of_ble_eq_true rfl) (by first | omega | exact hw _ | exact hx _ _ | assumption) (by first | omega | exact hw _ | exact hx _ _ | assumption) ?_
    refine j_istore d_Pap_mendOpening_61 (by decide) ?_
    show SJ _ _ _ _ [_, _, _, _, _, _, _, _] _ _ _ _ _
    refine j_iload d_Pap_mendOpening_63 rfl ?_
    refine j_iload_n d_Pap_mendOpening_65 rfl ?_
    refine z_icmp_ge (t := 99) d_Pap_mendOpening_66 (by decide) (by first | omega | exact hw _ | exact hx _ _ | assumption) (by first | omega | exact hw _ | exact hx _ _ | assumption) (fun h66 => ?_) (fun h66 => ?_)
    · refine z_iinc d_Pap_mendOpening_99 rfl (by decide) ?_
      show SJ _ _ _ _ [_, _, _, _, _, _, _, _] _ _ _ _ _
      refine j_goto (t := 16) d_Pap_mendOpening_102 (by decide) ?_
      refine SJ.mask [true, true, true, true, true, true, true, false] ?_
      show SJ _ _ _ _ [_, _, _, _, _, _, _, none] _ _ _ _ _
      refine ih _ (by omega) (k + 1) _ rfl (by omega) (by omega) (by omega) (by omega) ?_
      rw [← hF]
      congr 1
      unfold moG
      split <;> omega
    · have hsk := hs k (by omega) (by omega)
      have hb3 := hB (k + 1) b (by omega) (by omega) (by omega) (by omega)
      refine j_aload_n d_Pap_mendOpening_69 rfl ?_
      refine j_iload d_Pap_mendOpening_70 rfl ?_
      refine al_PX_6 d_Pap_mendOpening_72 (by omega) (by omega) ?_
      refine j_iload d_Pap_mendOpening_73 rfl ?_
      refine z_icmp_ne (t := 99) d_Pap_mendOpening_75 (by decide) (by first | omega | exact hw _ | exact hx _ _ | assumption) (by first | omega | exact hw _ | exact hx _ _ | assumption) (fun h75 => ?_) (fun h75 => ?_)
      · refine z_iinc d_Pap_mendOpening_99 rfl (by decide) ?_
        show SJ _ _ _ _ [_, _, _, _, _, _, _, _] _ _ _ _ _
        refine j_goto (t := 16) d_Pap_mendOpening_102 (by decide) ?_
        refine SJ.mask [true, true, true, true, true, true, true, false] ?_
        show SJ _ _ _ _ [_, _, _, _, _, _, _, none] _ _ _ _ _
        refine ih _ (by omega) (k + 1) _ rfl (by omega) (by omega) (by omega) (by omega) ?_
        rw [← hF]
        congr 1
        unfold moG
        split <;> omega
      · refine j_iload d_Pap_mendOpening_78 rfl ?_
        refine j_iload d_Pap_mendOpening_80 rfl ?_
        refine j_aload_n d_Pap_mendOpening_82 rfl ?_
        refine gf_PX_0_14 f_Pap_58 d_Pap_mendOpening_83 ?_
        refine j_iload d_Pap_mendOpening_86 rfl ?_
        refine z_iconst d_Pap_mendOpening_88 ?_
        refine z_iadd d_Pap_mendOpening_89 ?_
        refine z_aald d_Pap_mendOpening_90 rfl (by decide) (by omega) (by omega) (by omega) ?_
        refine j_iload_n d_Pap_mendOpening_91 rfl ?_
        refine z_iald d_Pap_mendOpening_92 (PX_be (by omega) (by omega)) (by omega) (by omega) (by omega) ?_
        refine z_iadd d_Pap_mendOpening_93 ?_
        refine z_min d_Pap_mendOpening_94 mm_Pap_130 (Nat.le_of_ble_eq_true rfl) (by first | omega | exact hw _ | exact hx _ _ | assumption) (by first | omega | exact hw _ | exact hx _ _ | assumption) ?_
        refine j_istore d_Pap_mendOpening_97 (by decide) ?_
        show SJ _ _ _ _ [_, _, _, _, _, _, _, _] _ _ _ _ _
        refine z_iinc d_Pap_mendOpening_99 rfl (by decide) ?_
        show SJ _ _ _ _ [_, _, _, _, _, _, _, _] _ _ _ _ _
        refine j_goto (t := 16) d_Pap_mendOpening_102 (by decide) ?_
        refine SJ.mask [true, true, true, true, true, true, true, false] ?_
        show SJ _ _ _ _ [_, _, _, _, _, _, _, none] _ _ _ _ _
        refine ih _ (by omega) (k + 1) _ rfl (by omega) (by omega) (by omega) (by omega) ?_
        rw [← hF]
        congr 1
        unfold moG
        split <;> omega
theorem t_Pap_mendOpening {g : Bool} {d : Nat} {Q : List xM → Option Value → Prop} {pq0 pq1 pq2 pq3 pq4 pq5 pq6 pq7 pq8 pq9 lc fo rn rl rp td br yn yl yp : Int} {xk sq oq rs rm rd ro tm sk wd ys ym yd yo : Int → Int} {lx : Nat → Option Nat} {pr be : Int → Int → Int} {ts : List TD} {n a b : Int} (n1_ : n ≤ 20) (a0_ : 0 ≤ a) (ab_ : a < b) (bn_ : b ≤ n) (hs : ∀ j, 0 ≤ j → j < n → 0 ≤ rs j ∧ rs j ≤ 11) (hP : ∀ s p, 0 ≤ s → s < 6 → 0 ≤ p → p ≤ n → 0 ≤ pr s p ∧ (pr s p ≤ 99 ∨ pr s p = 100000000)) (hB : ∀ i j, a ≤ i → i ≤ j → j ≤ b → (i = a → j < b) → 0 ≤ be i j ∧ be i j ≤ 100000000) (ho : rs a < 3) (hQ : Q (W_PX pq0 pq1 pq2 pq3 pq4 pq5 pq6 pq7 pq8 pq9 lc fo rn rl rp td br yn yl yp xk sq oq rs rm rd ro tm sk wd ys ym yd yo lx pr be ts) (some (.int (ii (moR rs pr be a b))))) : CT g m_Pap_mendOpening (d + 1) [.ref 0, .ref 6, .int (ii a), .int (ii b)] (W_PX pq0 pq1 pq2 pq3 pq4 pq5 pq6 pq7 pq8 pq9 lc fo rn rl rp td br yn yl yp xk sq oq rs rm rd ro tm sk wd ys ym yd yo lx pr be ts) 0 0 Q := by
  refine CT.of (by decide) (Nat.le_of_ble_eq_true rfl) ?_
  show SJ _ _ _ _ [some (.ref 0), some (.ref 6), some (.int (ii a)), some (.int (ii b)), none, none, none, none] [] _ _ _ _
  have hsa := hs a a0_ (by omega)
  refine j_aload_n d_Pap_mendOpening_0 rfl ?_
  refine j_iload_n d_Pap_mendOpening_1 rfl ?_
  refine al_PX_6 d_Pap_mendOpening_2 (by omega) (by omega) ?_
  refine z_iconst d_Pap_mendOpening_3 ?_
  refine z_iadd d_Pap_mendOpening_4 ?_
  refine j_istore d_Pap_mendOpening_5 (by decide) ?_
  show SJ _ _ _ _ [_, _, _, _, _, _, _, _] _ _ _ _ _
  refine z_ldc (w := 100000000) d_Pap_mendOpening_7 k_Pap_86 (by decide) ?_
  refine j_istore d_Pap_mendOpening_9 (by decide) ?_
  show SJ _ _ _ _ [_, _, _, _, _, _, _, _] _ _ _ _ _
  refine j_iload_n d_Pap_mendOpening_11 rfl ?_
  refine z_iconst d_Pap_mendOpening_12 ?_
  refine z_iadd d_Pap_mendOpening_13 ?_
  refine j_istore d_Pap_mendOpening_14 (by decide) ?_
  show SJ _ _ _ _ [_, _, _, _, _, _, _, _] _ _ _ _ _
  exact lp_mop n1_ a0_ ab_ bn_ hs hP hB ho hQ _ (a + 1) 100000000 rfl (by omega) (by omega) (by omega) (by omega) rfl
theorem lp_mrun {g : Bool} {d : Nat} {Q : List xM → Option Value → Prop} {pq0 pq1 pq2 pq3 pq4 pq5 pq6 pq7 pq8 pq9 lc fo rn rl rp td br yn yl yp : Int} {xk sq oq rs rm rd ro tm sk wd ys ym yd yo : Int → Int} {lx : Nat → Option Nat} {pr be : Int → Int → Int} {ts : List TD} {n a b : Int} (n1_ : n ≤ 20) (a0_ : 0 ≤ a) (ab_ : a < b) (bn_ : b ≤ n) (hs : ∀ j, 0 ≤ j → j < n → 0 ≤ rs j ∧ rs j ≤ 11) (hP : ∀ s p, 0 ≤ s → s < 6 → 0 ≤ p → p ≤ n → 0 ≤ pr s p ∧ (pr s p ≤ 99 ∨ pr s p = 100000000)) (hB : ∀ i j, a ≤ i → i ≤ j → j ≤ b → (i = a → j < b) → 0 ≤ be i j ∧ be i j ≤ 100000000) {R : Int} (hQ : Q (W_PX pq0 pq1 pq2 pq3 pq4 pq5 pq6 pq7 pq8 pq9 lc fo rn rl rp td br yn yl yp xk sq oq rs rm rd ro tm sk wd ys ym yd yo lx pr be ts) (some (.int (ii (min R 100000000))))) : ∀ (nn : Nat) (k : Int) (least : Int), (b - k).toNat = nn → a ≤ k → k ≤ b → 0 ≤ least → least ≤ 100000000 → mnF (mrG rs pr be a b) (b - k).toNat k least = R → SJ g m_Pap_mendRun (d + 2) 52 [some (.ref 0), some (.ref 6), some (.int (ii a)), some (.int (ii b)), none, some (.int (ii least)), some (.int (ii k)), none] [] (W_PX pq0 pq1 pq2 pq3 pq4 pq5 pq6 pq7 pq8 pq9 lc fo rn rl rp td br yn yl yp xk sq oq rs rm rd ro tm sk wd ys ym yd yo lx pr be ts) 0 0 Q := by
  intro nn
  induction nn using Nat.strongRecOn with
  | ind nn ih =>
  intro k least hn k0 k1 l0 l1 hF
  refine j_iload d_Pap_mendRun_52 rfl ?_
  refine j_iload_n d_Pap_mendRun_54 rfl ?_
  refine z_icmp_ge (t := 119) d_Pap_mendRun_55 (by decide) (by first | omega | exact hw _ | exact hx _ _ | assumption) (by first | omega | exact hw _ | exact hx _ _ | assumption) (fun h55 => ?_) (fun h55 => ?_)
  · rw [mnF_0 (by omega)] at hF
    subst hF
    refine j_iload d_Pap_mendRun_119 rfl ?_
    refine z_ldc (w := 100000000) d_Pap_mendRun_121 k_Pap_86 (by decide) ?_
    refine z_min d_Pap_mendRun_123 mm_Pap_130 (Nat.le_of_ble_eq_true rfl) (by first | omega | exact hw _ | exact hx _ _ | assumption) (by first | omega | exact hw _ | exact hx _ _ | assumption) ?_
    exact z_iret rfl d_Pap_mendRun_126 (by first | rfl | omega | simp_all) hQ
  · rw [mnF_s (by omega)] at hF
    have hsk := hs k (by omega) (by omega)
    refine j_aload_n d_Pap_mendRun_58 rfl ?_
    refine j_iload d_Pap_mendRun_59 rfl ?_
    refine al_PX_6 d_Pap_mendRun_61 (by omega) (by omega) ?_
    refine s_call1 d_Pap_mendRun_62 c_Pap_119 (Nat.le_of_ble_eq_true rfl) (t_Row_closes (by first | omega | exact hw _ | exact hx _ _ | assumption) (fun h62 => ?_) (fun h62 => ?_))
    · refine z_if_eq (t := 113) d_Pap_mendRun_65 (by decide) (by first | omega | exact hw _ | exact hx _ _ | assumption) (fun h => absurd h (by decide)) (fun _ => ?_)
      have hb1 := hB a k (by omega) (by omega) (by omega) (by omega)
      have hb2 := hB (k + 1) b (by omega) (by omega) (by omega) (by omega)
      have hkk := kd_op3 (s := rs k) (by omega) (by omega)
      have hcb := cB_R (hP (kd (rs k)) a (by omega) (by omega) (by omega) (by omega))
      refine j_aload_n d_Pap_mendRun_68 rfl ?_
      refine j_aload_n d_Pap_mendRun_69 rfl ?_
      refine j_iload d_Pap_mendRun_70 rfl ?_
      refine al_PX_6 d_Pap_mendRun_72 (by omega) (by omega) ?_
      refine s_call1 d_Pap_mendRun_73 c_Pap_122 (Nat.le_of_ble_eq_true rfl) (t_Row_kindOf (by first | omega | exact hw _ | exact hx _ _ | assumption) ?_)
      refine j_iload_n d_Pap_mendRun_76 rfl ?_
      refine v_call2 d_Pap_mendRun_77 c_Pap_126 rfl ⟨_, rfl, rfl⟩ (Nat.le_of_ble_eq_true rfl) (t_Pap_newSign (by omega) (by omega) (by omega) (by omega) (hP _ _ (by omega) (by omega) (by omega) (by omega)) ?_)
      refine j_istore d_Pap_mendRun_80 (by decide) ?_
      show SJ _ _ _ _ [_, _, _, _, _, _, _, _] _ _ _ _ _
      refine j_iload d_Pap_mendRun_82 rfl ?_
      refine j_iload d_Pap_mendRun_84 rfl ?_
      refine j_aload_n d_Pap_mendRun_86 rfl ?_
      refine gf_PX_0_14 f_Pap_58 d_Pap_mendRun_87 ?_
      refine j_iload_n d_Pap_mendRun_90 rfl ?_
      refine z_aald d_Pap_mendRun_91 rfl (by decide) (by omega) (by omega) (by omega) ?_
      refine j_iload d_Pap_mendRun_92 rfl ?_
      refine z_iald d_Pap_mendRun_94 (PX_be (by omega) (by omega)) (by omega) (by omega) (by omega) ?_
      refine z_iadd d_Pap_mendRun_95 ?_
      refine j_aload_n d_Pap_mendRun_96 rfl ?_
      refine gf_PX_0_14 f_Pap_58 d_Pap_mendRun_97 ?_
      refine j_iload d_Pap_mendRun_100 rfl ?_
      refine z_iconst d_Pap_mendRun_102 ?_
      refine z_iadd d_Pap_mendRun_103 ?_
      refine z_aald d_Pap_mendRun_104 rfl (by decide) (by omega) (by omega) (by omega) ?_
      refine j_iload_n d_Pap_mendRun_105 rfl ?_
      refine z_iald d_Pap_mendRun_106 (PX_be (by omega) (by omega)) (by omega) (by omega) (by omega) ?_
      refine z_iadd d_Pap_mendRun_107 ?_
      refine z_min d_Pap_mendRun_108 mm_Pap_130 (Nat.le_of_ble_eq_true rfl) (by first | omega | exact hw _ | exact hx _ _ | assumption) (by first | omega | exact hw _ | exact hx _ _ | assumption) ?_
      refine j_istore d_Pap_mendRun_111 (by decide) ?_
      show SJ _ _ _ _ [_, _, _, _, _, _, _, _] _ _ _ _ _
      refine z_iinc d_Pap_mendRun_113 rfl (by decide) ?_
      show SJ _ _ _ _ [_, _, _, _, _, _, _, _] _ _ _ _ _
      refine j_goto (t := 52) d_Pap_mendRun_116 (by decide) ?_
      refine SJ.mask [true, true, true, true, true, true, true, false] ?_
      show SJ _ _ _ _ [_, _, _, _, none, _, _, none] _ _ _ _ _
      refine ih _ (by omega) (k + 1) _ rfl (by omega) (by omega) (by omega) (by omega) ?_
      rw [← hF]
      congr 1
      unfold mrG
      split <;> omega
    · refine z_if_eq (t := 113) d_Pap_mendRun_65 (by decide) (by first | omega | exact hw _ | exact hx _ _ | assumption) (fun _ => ?_) (fun h => absurd h (by decide))
      refine z_iinc d_Pap_mendRun_113 rfl (by decide) ?_
      show SJ _ _ _ _ [_, _, _, _, _, _, _, _] _ _ _ _ _
      refine j_goto (t := 52) d_Pap_mendRun_116 (by decide) ?_
      refine ih _ (by omega) (k + 1) _ rfl (by omega) (by omega) (by omega) (by omega) ?_
      rw [← hF]
      congr 1
      unfold mrG
      split <;> omega
theorem t_Pap_mendRun {g : Bool} {d : Nat} {Q : List xM → Option Value → Prop} {pq0 pq1 pq2 pq3 pq4 pq5 pq6 pq7 pq8 pq9 lc fo rn rl rp td br yn yl yp : Int} {xk sq oq rs rm rd ro tm sk wd ys ym yd yo : Int → Int} {lx : Nat → Option Nat} {pr be : Int → Int → Int} {ts : List TD} {n a b : Int} (n1_ : n ≤ 20) (a0_ : 0 ≤ a) (ab_ : a < b) (bn_ : b ≤ n) (hs : ∀ j, 0 ≤ j → j < n → 0 ≤ rs j ∧ rs j ≤ 11) (hP : ∀ s p, 0 ≤ s → s < 6 → 0 ≤ p → p ≤ n → 0 ≤ pr s p ∧ (pr s p ≤ 99 ∨ pr s p = 100000000)) (hB : ∀ i j, a ≤ i → i ≤ j → j ≤ b → (i = a → j < b) → 0 ≤ be i j ∧ be i j ≤ 100000000) (hmo : rs a < 3 → 0 ≤ moR rs pr be a b ∧ moR rs pr be a b ≤ 100000000) (hQ : Q (W_PX pq0 pq1 pq2 pq3 pq4 pq5 pq6 pq7 pq8 pq9 lc fo rn rl rp td br yn yl yp xk sq oq rs rm rd ro tm sk wd ys ym yd yo lx pr be ts) (some (.int (ii (mrR rs pr be a b))))) : CT g m_Pap_mendRun (d + 2) [.ref 0, .ref 6, .int (ii a), .int (ii b)] (W_PX pq0 pq1 pq2 pq3 pq4 pq5 pq6 pq7 pq8 pq9 lc fo rn rl rp td br yn yl yp xk sq oq rs rm rd ro tm sk wd ys ym yd yo lx pr be ts) 0 0 Q := by
  refine CT.of (by decide) (Nat.le_of_ble_eq_true rfl) ?_
  show SJ _ _ _ _ [some (.ref 0), some (.ref 6), some (.int (ii a)), some (.int (ii b)), none, none, none, none] [] _ _ _ _
  have hsa := hs a a0_ (by omega)
  have hb0 := hB (a + 1) b (by omega) (by omega) (by omega) (by omega)
  refine j_aload_n d_Pap_mendRun_0 rfl ?_
  refine j_iload_n d_Pap_mendRun_1 rfl ?_
  refine al_PX_6 d_Pap_mendRun_2 (by omega) (by omega) ?_
  refine j_istore d_Pap_mendRun_3 (by decide) ?_
  show SJ _ _ _ _ [_, _, _, _, _, _, _, _] _ _ _ _ _
  refine z_ldc (w := 100000000) d_Pap_mendRun_5 k_Pap_86 (by decide) ?_
  refine j_istore d_Pap_mendRun_7 (by decide) ?_
  show SJ _ _ _ _ [_, _, _, _, _, _, _, _] _ _ _ _ _
  refine j_iload d_Pap_mendRun_9 rfl ?_
  refine s_call1 d_Pap_mendRun_11 c_Pap_109 (Nat.le_of_ble_eq_true rfl) (t_Row_isName (by first | omega | exact hw _ | exact hx _ _ | assumption) (fun h11 => ?_) (fun h11 => ?_))
  · refine z_if_eq (t := 32) d_Pap_mendRun_14 (by decide) (by first | omega | exact hw _ | exact hx _ _ | assumption) (fun h => absurd h (by decide)) (fun _ => ?_)
    refine j_aload_n d_Pap_mendRun_17 rfl ?_
    refine gf_PX_0_14 f_Pap_58 d_Pap_mendRun_18 ?_
    refine j_iload_n d_Pap_mendRun_21 rfl ?_
    refine z_iconst d_Pap_mendRun_22 ?_
    refine z_iadd d_Pap_mendRun_23 ?_
    refine z_aald d_Pap_mendRun_24 rfl (by decide) (by omega) (by omega) (by omega) ?_
    refine j_iload_n d_Pap_mendRun_25 rfl ?_
    refine z_iald d_Pap_mendRun_26 (PX_be (by omega) (by omega)) (by omega) (by omega) (by omega) ?_
    refine j_istore d_Pap_mendRun_27 (by decide) ?_
    show SJ _ _ _ _ [_, _, _, _, _, _, _, _] _ _ _ _ _
    refine j_goto (t := 49) d_Pap_mendRun_29 (by decide) ?_
    refine j_iload_n d_Pap_mendRun_49 rfl ?_
    refine j_istore d_Pap_mendRun_50 (by decide) ?_
    show SJ _ _ _ _ [_, _, _, _, _, _, _, _] _ _ _ _ _
    refine SJ.mask [true, true, true, true, false, true, true, true] ?_
    show SJ _ _ _ _ [_, _, _, _, none, _, _, _] _ _ _ _ _
    refine lp_mrun n1_ a0_ ab_ bn_ hs hP hB hQ _ a _ rfl (by omega) (by omega) (by omega) (by omega) ?_
    congr 1
    unfold mrI
    first
    | rw [if_pos (by omega)]
    | rw [if_neg (by omega), if_pos (by omega)]
    | rw [if_neg (by omega), if_neg (by omega)]
  · refine z_if_eq (t := 32) d_Pap_mendRun_14 (by decide) (by first | omega | exact hw _ | exact hx _ _ | assumption) (fun _ => ?_) (fun h => absurd h (by decide))
    refine j_iload d_Pap_mendRun_32 rfl ?_
    refine s_call1 d_Pap_mendRun_34 c_Pap_113 (Nat.le_of_ble_eq_true rfl) (t_Row_opens (by first | omega | exact hw _ | exact hx _ _ | assumption) (fun h34 => ?_) (fun h34 => ?_))
    · refine z_if_eq (t := 49) d_Pap_mendRun_37 (by decide) (by first | omega | exact hw _ | exact hx _ _ | assumption) (fun h => absurd h (by decide)) (fun _ => ?_)
      refine j_aload_n d_Pap_mendRun_40 rfl ?_
      refine j_aload_n d_Pap_mendRun_41 rfl ?_
      refine j_iload_n d_Pap_mendRun_42 rfl ?_
      refine j_iload_n d_Pap_mendRun_43 rfl ?_
      refine v_call3 d_Pap_mendRun_44 c_Pap_116 rfl ⟨_, rfl, rfl⟩ (Nat.le_of_ble_eq_true rfl) (t_Pap_mendOpening n1_ a0_ ab_ bn_ hs hP hB (by omega) ?_)
      refine j_istore d_Pap_mendRun_47 (by decide) ?_
      show SJ _ _ _ _ [_, _, _, _, _, _, _, _] _ _ _ _ _
      refine j_iload_n d_Pap_mendRun_49 rfl ?_
      refine j_istore d_Pap_mendRun_50 (by decide) ?_
      show SJ _ _ _ _ [_, _, _, _, _, _, _, _] _ _ _ _ _
      refine SJ.mask [true, true, true, true, false, true, true, true] ?_
      show SJ _ _ _ _ [_, _, _, _, none, _, _, _] _ _ _ _ _
      refine lp_mrun n1_ a0_ ab_ bn_ hs hP hB hQ _ a _ rfl (by omega) (by omega) (by omega) (by omega) ?_
      congr 1
      unfold mrI
      first
      | rw [if_pos (by omega)]
      | rw [if_neg (by omega), if_pos (by omega)]
      | rw [if_neg (by omega), if_neg (by omega)]
    · refine z_if_eq (t := 49) d_Pap_mendRun_37 (by decide) (by first | omega | exact hw _ | exact hx _ _ | assumption) (fun _ => ?_) (fun h => absurd h (by decide))
      refine j_iload_n d_Pap_mendRun_49 rfl ?_
      refine j_istore d_Pap_mendRun_50 (by decide) ?_
      show SJ _ _ _ _ [_, _, _, _, _, _, _, _] _ _ _ _ _
      refine SJ.mask [true, true, true, true, false, true, true, true] ?_
      show SJ _ _ _ _ [_, _, _, _, none, _, _, _] _ _ _ _ _
      refine lp_mrun n1_ a0_ ab_ bn_ hs hP hB hQ _ a _ rfl (by omega) (by omega) (by omega) (by omega) ?_
      congr 1
      unfold mrI
      first
      | rw [if_pos (by omega)]
      | rw [if_neg (by omega), if_pos (by omega)]
      | rw [if_neg (by omega), if_neg (by omega)]
theorem lp_srun {g : Bool} {d : Nat} {Q : List xM → Option Value → Prop} {pq0 pq1 pq2 pq3 pq4 pq5 pq6 pq7 pq8 pq9 lc fo rn rl rp td br yn yl yp : Int} {xk sq oq rs rm rd ro tm sk wd ys ym yd yo : Int → Int} {lx : Nat → Option Nat} {pr be : Int → Int → Int} {ts : List TD} {n a b : Int} (n1_ : n ≤ 20) (a0_ : 0 ≤ a) (ab_ : a < b) (bn_ : b ≤ n) (hs : ∀ j, 0 ≤ j → j < n → 0 ≤ rs j ∧ rs j ≤ 11) (hB : ∀ i j, a ≤ i → i ≤ j → j ≤ b → (i = a → j < b) → 0 ≤ be i j ∧ be i j ≤ 1980) {R : Int} (ho : rs a < 3) (hQ : Q (W_PX pq0 pq1 pq2 pq3 pq4 pq5 pq6 pq7 pq8 pq9 lc fo rn rl rp td br yn yl yp xk sq oq rs rm rd ro tm sk wd ys ym yd yo lx pr be ts) (some (.int (ii R)))) : ∀ (nn : Nat) (k : Int) (least : Int), (b - k).toNat = nn → a + 1 ≤ k → k ≤ b → 0 ≤ least → least ≤ 2079 → mnF (srG rs be a b) (b - k).toNat k least = R → SJ g m_Pap_strikeRun (d + 1) 46 [some (.ref 0), some (.ref 6), some (.int (ii a)), some (.int (ii b)), some (.int (ii least)), some (.int (ii k))] [] (W_PX pq0 pq1 pq2 pq3 pq4 pq5 pq6 pq7 pq8 pq9 lc fo rn rl rp td br yn yl yp xk sq oq rs rm rd ro tm sk wd ys ym yd yo lx pr be ts) 0 0 Q := by
  intro nn
  induction nn using Nat.strongRecOn with
  | ind nn ih =>
  intro k least hn k0 k1 l0 l1 hF
  have hsa := hs a a0_ (by omega)
  refine j_iload d_Pap_strikeRun_46 rfl ?_
  refine j_iload_n d_Pap_strikeRun_48 rfl ?_
  refine z_icmp_ge (t := 100) d_Pap_strikeRun_49 (by decide) (by first | omega | exact hw _ | exact hx _ _ | assumption) (by first | omega | exact hw _ | exact hx _ _ | assumption) (fun h49 => ?_) (fun h49 => ?_)
  · rw [mnF_0 (by omega)] at hF
    subst hF
    refine j_iload d_Pap_strikeRun_100 rfl ?_
    exact z_iret rfl d_Pap_strikeRun_102 (by first | rfl | omega | simp_all) hQ
  · rw [mnF_s (by omega)] at hF
    have hsk := hs k (by omega) (by omega)
    have hb1 := hB (a + 1) k (by omega) (by omega) (by omega) (by omega)
    have hb2 := hB (k + 1) b (by omega) (by omega) (by omega) (by omega)
    refine j_aload_n d_Pap_strikeRun_52 rfl ?_
    refine j_iload d_Pap_strikeRun_53 rfl ?_
    refine al_PX_6 d_Pap_strikeRun_55 (by omega) (by omega) ?_
    refine j_aload_n d_Pap_strikeRun_56 rfl ?_
    refine j_iload_n d_Pap_strikeRun_57 rfl ?_
    refine al_PX_6 d_Pap_strikeRun_58 (by omega) (by omega) ?_
    refine z_iconst d_Pap_strikeRun_59 ?_
    refine z_iadd d_Pap_strikeRun_60 ?_
    refine z_icmp_ne (t := 94) d_Pap_strikeRun_61 (by decide) (by first | omega | exact hw _ | exact hx _ _ | assumption) (by first | omega | exact hw _ | exact hx _ _ | assumption) (fun h61 => ?_) (fun h61 => ?_)
    · refine z_iinc d_Pap_strikeRun_94 rfl (by decide) ?_
      show SJ _ _ _ _ [_, _, _, _, _, _] _ _ _ _ _
      refine j_goto (t := 46) d_Pap_strikeRun_97 (by decide) ?_
      refine ih _ (by omega) (k + 1) _ rfl (by omega) (by omega) (by omega) (by omega) ?_
      rw [← hF]
      congr 1
      unfold srG
      split <;> omega
    · refine j_iload d_Pap_strikeRun_64 rfl ?_
      refine j_aload_n d_Pap_strikeRun_66 rfl ?_
      refine gf_PX_0_14 f_Pap_58 d_Pap_strikeRun_67 ?_
      refine j_iload_n d_Pap_strikeRun_70 rfl ?_
      refine z_iconst d_Pap_strikeRun_71 ?_
      refine z_iadd d_Pap_strikeRun_72 ?_
      refine z_aald d_Pap_strikeRun_73 rfl (by decide) (by omega) (by omega) (by omega) ?_
      refine j_iload d_Pap_strikeRun_74 rfl ?_
      refine z_iald d_Pap_strikeRun_76 (PX_be (by omega) (by omega)) (by omega) (by omega) (by omega) ?_
      refine j_aload_n d_Pap_strikeRun_77 rfl ?_
      refine gf_PX_0_14 f_Pap_58 d_Pap_strikeRun_78 ?_
      refine j_iload d_Pap_strikeRun_81 rfl ?_
      refine z_iconst d_Pap_strikeRun_83 ?_
      refine z_iadd d_Pap_strikeRun_84 ?_
      refine z_aald d_Pap_strikeRun_85 rfl (by decide) (by omega) (by omega) (by omega) ?_
      refine j_iload_n d_Pap_strikeRun_86 rfl ?_
      refine z_iald d_Pap_strikeRun_87 (PX_be (by omega) (by omega)) (by omega) (by omega) (by omega) ?_
      refine z_iadd d_Pap_strikeRun_88 ?_
      refine z_min d_Pap_strikeRun_89 mm_Pap_130 (Nat.le_of_ble_eq_true rfl) (by first | omega | exact hw _ | exact hx _ _ | assumption) (by first | omega | exact hw _ | exact hx _ _ | assumption) ?_
      refine j_istore d_Pap_strikeRun_92 (by decide) ?_
      show SJ _ _ _ _ [_, _, _, _, _, _] _ _ _ _ _
      refine z_iinc d_Pap_strikeRun_94 rfl (by decide) ?_
      show SJ _ _ _ _ [_, _, _, _, _, _] _ _ _ _ _
      refine j_goto (t := 46) d_Pap_strikeRun_97 (by decide) ?_
      refine ih _ (by omega) (k + 1) _ rfl (by omega) (by omega) (by omega) (by omega) ?_
      rw [← hF]
      congr 1
      unfold srG
      split <;> omega
theorem t_Pap_strikeRun {g : Bool} {d : Nat} {Q : List xM → Option Value → Prop} {pq0 pq1 pq2 pq3 pq4 pq5 pq6 pq7 pq8 pq9 lc fo rn rl rp td br yn yl yp : Int} {xk sq oq rs rm rd ro tm sk wd ys ym yd yo : Int → Int} {lx : Nat → Option Nat} {pr be : Int → Int → Int} {ts : List TD} {n a b : Int} (n1_ : n ≤ 20) (a0_ : 0 ≤ a) (ab_ : a < b) (bn_ : b ≤ n) (hs : ∀ j, 0 ≤ j → j < n → 0 ≤ rs j ∧ rs j ≤ 11) (hB : ∀ i j, a ≤ i → i ≤ j → j ≤ b → (i = a → j < b) → 0 ≤ be i j ∧ be i j ≤ 1980) (hw : 0 ≤ sq a ∧ sq a ≤ 99) (hQ : Q (W_PX pq0 pq1 pq2 pq3 pq4 pq5 pq6 pq7 pq8 pq9 lc fo rn rl rp td br yn yl yp xk sq oq rs rm rd ro tm sk wd ys ym yd yo lx pr be ts) (some (.int (ii (srR rs sq be a b))))) : CT g m_Pap_strikeRun (d + 1) [.ref 0, .ref 6, .int (ii a), .int (ii b)] (W_PX pq0 pq1 pq2 pq3 pq4 pq5 pq6 pq7 pq8 pq9 lc fo rn rl rp td br yn yl yp xk sq oq rs rm rd ro tm sk wd ys ym yd yo lx pr be ts) 0 0 Q := by
  refine CT.of (by decide) (Nat.le_of_ble_eq_true rfl) ?_
  show SJ _ _ _ _ [some (.ref 0), some (.ref 6), some (.int (ii a)), some (.int (ii b)), none, none] [] _ _ _ _
  have hsa := hs a a0_ (by omega)
  have hb0 := hB (a + 1) b (by omega) (by omega) (by omega) (by omega)
  generalize hR : srR rs sq be a b = R at hQ
  unfold srR at hR
  refine j_aload_n d_Pap_strikeRun_0 rfl ?_
  refine gf_PX_0_14 f_Pap_58 d_Pap_strikeRun_1 ?_
  refine j_iload_n d_Pap_strikeRun_4 rfl ?_
  refine z_iconst d_Pap_strikeRun_5 ?_
  refine z_iadd d_Pap_strikeRun_6 ?_
  refine z_aald d_Pap_strikeRun_7 rfl (by decide) (by omega) (by omega) (by omega) ?_
  refine j_iload_n d_Pap_strikeRun_8 rfl ?_
  refine z_iald d_Pap_strikeRun_9 (PX_be (by omega) (by omega)) (by omega) (by omega) (by omega) ?_
  refine j_aload_n d_Pap_strikeRun_10 rfl ?_
  refine j_iload_n d_Pap_strikeRun_11 rfl ?_
  refine al_PX_6 d_Pap_strikeRun_12 (by omega) (by omega) ?_
  refine s_call1 d_Pap_strikeRun_13 c_Pap_109 (Nat.le_of_ble_eq_true rfl) (t_Row_isName (by first | omega | exact hw _ | exact hx _ _ | assumption) (fun h13 => ?_) (fun h13 => ?_))
  · refine z_if_eq (t := 23) d_Pap_strikeRun_16 (by decide) (by first | omega | exact hw _ | exact hx _ _ | assumption) (fun h => absurd h (by decide)) (fun _ => ?_)
    refine z_iconst d_Pap_strikeRun_19 ?_
    refine j_goto (t := 29) d_Pap_strikeRun_20 (by decide) ?_
    refine z_iadd d_Pap_strikeRun_29 ?_
    refine j_istore d_Pap_strikeRun_30 (by decide) ?_
    show SJ _ _ _ _ [_, _, _, _, _, _] _ _ _ _ _
    refine j_aload_n d_Pap_strikeRun_32 rfl ?_
    refine j_iload_n d_Pap_strikeRun_33 rfl ?_
    refine al_PX_6 d_Pap_strikeRun_34 (by omega) (by omega) ?_
    refine s_call1 d_Pap_strikeRun_35 c_Pap_113 (Nat.le_of_ble_eq_true rfl) (t_Row_opens (by first | omega | exact hw _ | exact hx _ _ | assumption) (fun h35 => ?_) (fun h35 => ?_))
    · refine z_if_eq (t := 100) d_Pap_strikeRun_38 (by decide) (by first | omega | exact hw _ | exact hx _ _ | assumption) (fun h => absurd h (by decide)) (fun _ => ?_)
      refine j_iload_n d_Pap_strikeRun_41 rfl ?_
      refine z_iconst d_Pap_strikeRun_42 ?_
      refine z_iadd d_Pap_strikeRun_43 ?_
      refine j_istore d_Pap_strikeRun_44 (by decide) ?_
      show SJ _ _ _ _ [_, _, _, _, _, _] _ _ _ _ _
      first
      | (exfalso; omega)
      | (rw [if_pos (by omega), if_neg (by omega)] at hR
         exact lp_srun n1_ a0_ ab_ bn_ hs hB (by omega) hQ _ (a + 1) _ rfl (by omega) (by omega) (by omega) (by omega) hR)
    · refine z_if_eq (t := 100) d_Pap_strikeRun_38 (by decide) (by first | omega | exact hw _ | exact hx _ _ | assumption) (fun _ => ?_) (fun h => absurd h (by decide))
      refine j_iload d_Pap_strikeRun_100 rfl ?_
      first
      | (exfalso; omega)
      | (rw [if_neg (by omega), if_pos (by omega)] at hR
         exact z_iret rfl d_Pap_strikeRun_102 hR hQ)
      | (rw [if_neg (by omega), if_neg (by omega)] at hR
         exact z_iret rfl d_Pap_strikeRun_102 hR hQ)
  · refine z_if_eq (t := 23) d_Pap_strikeRun_16 (by decide) (by first | omega | exact hw _ | exact hx _ _ | assumption) (fun _ => ?_) (fun h => absurd h (by decide))
    refine j_aload_n d_Pap_strikeRun_23 rfl ?_
    refine gf_PX_0_15 f_Pap_61 d_Pap_strikeRun_24 ?_
    refine j_iload_n d_Pap_strikeRun_27 rfl ?_
    refine al_PX_2 d_Pap_strikeRun_28 (by omega) (by omega) ?_
    refine z_iadd d_Pap_strikeRun_29 ?_
    refine j_istore d_Pap_strikeRun_30 (by decide) ?_
    show SJ _ _ _ _ [_, _, _, _, _, _] _ _ _ _ _
    refine j_aload_n d_Pap_strikeRun_32 rfl ?_
    refine j_iload_n d_Pap_strikeRun_33 rfl ?_
    refine al_PX_6 d_Pap_strikeRun_34 (by omega) (by omega) ?_
    refine s_call1 d_Pap_strikeRun_35 c_Pap_113 (Nat.le_of_ble_eq_true rfl) (t_Row_opens (by first | omega | exact hw _ | exact hx _ _ | assumption) (fun h35 => ?_) (fun h35 => ?_))
    · refine z_if_eq (t := 100) d_Pap_strikeRun_38 (by decide) (by first | omega | exact hw _ | exact hx _ _ | assumption) (fun h => absurd h (by decide)) (fun _ => ?_)
      refine j_iload_n d_Pap_strikeRun_41 rfl ?_
      refine z_iconst d_Pap_strikeRun_42 ?_
      refine z_iadd d_Pap_strikeRun_43 ?_
      refine j_istore d_Pap_strikeRun_44 (by decide) ?_
      show SJ _ _ _ _ [_, _, _, _, _, _] _ _ _ _ _
      first
      | (exfalso; omega)
      | (rw [if_pos (by omega), if_neg (by omega)] at hR
         exact lp_srun n1_ a0_ ab_ bn_ hs hB (by omega) hQ _ (a + 1) _ rfl (by omega) (by omega) (by omega) (by omega) hR)
    · refine z_if_eq (t := 100) d_Pap_strikeRun_38 (by decide) (by first | omega | exact hw _ | exact hx _ _ | assumption) (fun _ => ?_) (fun h => absurd h (by decide))
      refine j_iload d_Pap_strikeRun_100 rfl ?_
      first
      | (exfalso; omega)
      | (rw [if_neg (by omega), if_pos (by omega)] at hR
         exact z_iret rfl d_Pap_strikeRun_102 hR hQ)
      | (rw [if_neg (by omega), if_neg (by omega)] at hR
         exact z_iret rfl d_Pap_strikeRun_102 hR hQ)
theorem lp_cm {g : Bool} {d : Nat} {Q : List xM → Option Value → Prop} {pq0 pq1 pq2 pq3 pq4 pq5 pq6 pq7 pq8 pq9 lc fo rn rl rp td br yn yl yp : Int} {xk sq oq rs rm rd ro tm sk wd ys ym yd yo : Int → Int} {lx : Nat → Option Nat} {pr be : Int → Int → Int} {ts : List TD} {n a b : Int} (n1_ : n ≤ 20) (a0_ : 0 ≤ a) (ab_ : a < b) (bn_ : b ≤ n) (hs : ∀ j, 0 ≤ j → j < n → 0 ≤ rs j ∧ rs j ≤ 11) (hB : ∀ i j, a ≤ i → i ≤ j → j ≤ b → (i = a → j < b) → 0 ≤ be i j ∧ be i j ≤ 1980) (hab : 0 ≤ be a b ∧ be a b ≤ 1980) {R : Int} (hQ : Q (W_PX pq0 pq1 pq2 pq3 pq4 pq5 pq6 pq7 pq8 pq9 lc fo rn rl rp td br yn yl yp xk sq oq rs rm rd ro tm sk wd ys ym yd yo lx pr be ts) (some (.int (ii R)))) : ∀ (nn : Nat) (k : Int), (b - k).toNat = nn → a + 1 ≤ k → k ≤ b → fsF (cmP rs be a b) (b - k).toNat k = R → SJ g m_Pap_chooseMate d 5 [some (.ref 0), some (.ref 6), some (.int (ii a)), some (.int (ii b)), some (.int (ii k))] [] (W_PX pq0 pq1 pq2 pq3 pq4 pq5 pq6 pq7 pq8 pq9 lc fo rn rl rp td br yn yl yp xk sq oq rs rm rd ro tm sk wd ys ym yd yo lx pr be ts) 0 0 Q := by
  intro nn
  induction nn using Nat.strongRecOn with
  | ind nn ih =>
  intro k hn k0 k1 hF
  have hsa := hs a a0_ (by omega)
  refine j_iload d_Pap_chooseMate_5 rfl ?_
  refine j_iload_n d_Pap_chooseMate_7 rfl ?_
  refine z_icmp_ge (t := 66) d_Pap_chooseMate_8 (by decide) (by first | omega | exact hw _ | exact hx _ _ | assumption) (by first | omega | exact hw _ | exact hx _ _ | assumption) (fun h8 => ?_) (fun h8 => ?_)
  · rw [show (b - k).toNat = 0 by omega] at hF
    unfold fsF at hF
    subst hF
    refine z_iconst d_Pap_chooseMate_66 ?_
    exact z_iret rfl d_Pap_chooseMate_67 (by first | rfl | omega | simp_all) hQ
  · rw [show (b - k).toNat = (b - (k + 1)).toNat + 1 by omega] at hF
    unfold fsF at hF
    have hsk := hs k (by omega) (by omega)
    have hb1 := hB (a + 1) k (by omega) (by omega) (by omega) (by omega)
    have hb2 := hB (k + 1) b (by omega) (by omega) (by omega) (by omega)
    refine j_aload_n d_Pap_chooseMate_11 rfl ?_
    refine j_iload d_Pap_chooseMate_12 rfl ?_
    refine al_PX_6 d_Pap_chooseMate_14 (by omega) (by omega) ?_
    refine j_aload_n d_Pap_chooseMate_15 rfl ?_
    refine j_iload_n d_Pap_chooseMate_16 rfl ?_
    refine al_PX_6 d_Pap_chooseMate_17 (by omega) (by omega) ?_
    refine z_iconst d_Pap_chooseMate_18 ?_
    refine z_iadd d_Pap_chooseMate_19 ?_
    refine z_icmp_ne (t := 60) d_Pap_chooseMate_20 (by decide) (by first | omega | exact hw _ | exact hx _ _ | assumption) (by first | omega | exact hw _ | exact hx _ _ | assumption) (fun h20 => ?_) (fun h20 => ?_)
    · refine z_iinc d_Pap_chooseMate_60 rfl (by decide) ?_
      show SJ _ _ _ _ [_, _, _, _, _] _ _ _ _ _
      refine j_goto (t := 5) d_Pap_chooseMate_63 (by decide) ?_
      rw [if_neg (fun z => by have z1 := z.1; have z2 := z.2; omega)] at hF
      exact ih _ (by omega) (k + 1) rfl (by omega) (by omega) hF
    · refine j_aload_n d_Pap_chooseMate_23 rfl ?_
      refine gf_PX_0_14 f_Pap_58 d_Pap_chooseMate_24 ?_
      refine j_iload_n d_Pap_chooseMate_27 rfl ?_
      refine z_iconst d_Pap_chooseMate_28 ?_
      refine z_iadd d_Pap_chooseMate_29 ?_
      refine z_aald d_Pap_chooseMate_30 rfl (by decide) (by omega) (by omega) (by omega) ?_
      refine j_iload d_Pap_chooseMate_31 rfl ?_
      refine z_iald d_Pap_chooseMate_33 (PX_be (by omega) (by omega)) (by omega) (by omega) (by omega) ?_
      refine j_aload_n d_Pap_chooseMate_34 rfl ?_
      refine gf_PX_0_14 f_Pap_58 d_Pap_chooseMate_35 ?_
      refine j_iload d_Pap_chooseMate_38 rfl ?_
      refine z_iconst d_Pap_chooseMate_40 ?_
      refine z_iadd d_Pap_chooseMate_41 ?_
      refine z_aald d_Pap_chooseMate_42 rfl (by decide) (by omega) (by omega) (by omega) ?_
      refine j_iload_n d_Pap_chooseMate_43 rfl ?_
      refine z_iald d_Pap_chooseMate_44 (PX_be (by omega) (by omega)) (by omega) (by omega) (by omega) ?_
      refine z_iadd d_Pap_chooseMate_45 ?_
      refine j_aload_n d_Pap_chooseMate_46 rfl ?_
      refine gf_PX_0_14 f_Pap_58 d_Pap_chooseMate_47 ?_
      refine j_iload_n d_Pap_chooseMate_50 rfl ?_
      refine z_aald d_Pap_chooseMate_51 rfl (by decide) (by omega) (by omega) (by omega) ?_
      refine j_iload_n d_Pap_chooseMate_52 rfl ?_
      refine z_iald d_Pap_chooseMate_53 (PX_be (by omega) (by omega)) (by omega) (by omega) (by omega) ?_
      refine z_icmp_ne (t := 60) d_Pap_chooseMate_54 (by decide) (by first | omega | exact hw _ | exact hx _ _ | assumption) (by first | omega | exact hw _ | exact hx _ _ | assumption) (fun h54 => ?_) (fun h54 => ?_)
      · refine z_iinc d_Pap_chooseMate_60 rfl (by decide) ?_
        show SJ _ _ _ _ [_, _, _, _, _] _ _ _ _ _
        refine j_goto (t := 5) d_Pap_chooseMate_63 (by decide) ?_
        rw [if_neg (fun z => by have z1 := z.1; have z2 := z.2; omega)] at hF
        exact ih _ (by omega) (k + 1) rfl (by omega) (by omega) hF
      · rw [if_pos ⟨by omega, by omega⟩] at hF
        subst hF
        refine j_iload d_Pap_chooseMate_57 rfl ?_
        exact z_iret rfl d_Pap_chooseMate_59 (by first | rfl | omega | simp_all) hQ
theorem t_Pap_chooseMate {g : Bool} {d : Nat} {Q : List xM → Option Value → Prop} {pq0 pq1 pq2 pq3 pq4 pq5 pq6 pq7 pq8 pq9 lc fo rn rl rp td br yn yl yp : Int} {xk sq oq rs rm rd ro tm sk wd ys ym yd yo : Int → Int} {lx : Nat → Option Nat} {pr be : Int → Int → Int} {ts : List TD} {n a b : Int} (n1_ : n ≤ 20) (a0_ : 0 ≤ a) (ab_ : a < b) (bn_ : b ≤ n) (hs : ∀ j, 0 ≤ j → j < n → 0 ≤ rs j ∧ rs j ≤ 11) (hB : ∀ i j, a ≤ i → i ≤ j → j ≤ b → (i = a → j < b) → 0 ≤ be i j ∧ be i j ≤ 1980) (hab : 0 ≤ be a b ∧ be a b ≤ 1980) (hQ : Q (W_PX pq0 pq1 pq2 pq3 pq4 pq5 pq6 pq7 pq8 pq9 lc fo rn rl rp td br yn yl yp xk sq oq rs rm rd ro tm sk wd ys ym yd yo lx pr be ts) (some (.int (ii (cmR rs be a b))))) : CT g m_Pap_chooseMate d [.ref 0, .ref 6, .int (ii a), .int (ii b)] (W_PX pq0 pq1 pq2 pq3 pq4 pq5 pq6 pq7 pq8 pq9 lc fo rn rl rp td br yn yl yp xk sq oq rs rm rd ro tm sk wd ys ym yd yo lx pr be ts) 0 0 Q := by
  refine CT.of (by decide) (Nat.le_of_ble_eq_true rfl) ?_
  show SJ _ _ _ _ [some (.ref 0), some (.ref 6), some (.int (ii a)), some (.int (ii b)), none] [] _ _ _ _
  refine j_iload_n d_Pap_chooseMate_0 rfl ?_
  refine z_iconst d_Pap_chooseMate_1 ?_
  refine z_iadd d_Pap_chooseMate_2 ?_
  refine j_istore d_Pap_chooseMate_3 (by decide) ?_
  show SJ _ _ _ _ [_, _, _, _, _] _ _ _ _ _
  exact lp_cm n1_ a0_ ab_ bn_ hs hB hab hQ _ (a + 1) rfl (by omega) (by omega) rfl
/-! hiding -/
def thS (pr : Int → Int → Int) (a b k : Int) (x : Int × Int × Int × Int) : Int × Int × Int × Int := if pr k a + pr (k + 3) b < x.1 ∨ (pr k a + pr (k + 3) b = x.1 ∧ k < x.2.1) then (pr k a + pr (k + 3) b, k, a, b) else x
def thF (pr : Int → Int → Int) (a b : Int) : Nat → Int → Int × Int × Int × Int → Int × Int × Int × Int
  | 0, _, x => x
  | n + 1, k, x => thF pr a b n (k + 1) (thS pr a b k x)
theorem lp_thd {g : Bool} {d : Nat} {Q : List xM → Option Value → Prop} {pq0 pq1 pq2 pq3 pq4 pq5 lc fo rn rl rp td br yn yl yp : Int} {xk sq oq rs rm rd ro tm sk wd ys ym yd yo : Int → Int} {lx : Nat → Option Nat} {pr be : Int → Int → Int} {ts : List TD} {n a b : Int} (n1_ : n ≤ 20) (a0_ : 0 ≤ a) (an_ : a ≤ n) (b0_ : 0 ≤ b) (bn_ : b ≤ n) (hP : ∀ s p, 0 ≤ s → s < 6 → 0 ≤ p → p ≤ n → 0 ≤ pr s p ∧ (pr s p ≤ 99 ∨ pr s p = 100000000)) {r6 r7 r8 r9 : Int} (hQ : Q (W_PX pq0 pq1 pq2 pq3 pq4 pq5 r6 r7 r8 r9 lc fo rn rl rp td br yn yl yp xk sq oq rs rm rd ro tm sk wd ys ym yd yo lx pr be ts) none) : ∀ (nn : Nat) (k : Int) (pq6 : Int) (pq7 : Int) (pq8 : Int) (pq9 : Int), (3 - k).toNat = nn → 0 ≤ k → k ≤ 3 → R32 pq6 → R32 pq7 → thF pr a b (3 - k).toNat k (pq6, pq7, pq8, pq9) = (r6, r7, r8, r9) → SJ g m_Pap_tryHiding d 2 [some (.ref 0), some (.int (ii a)), some (.int (ii b)), some (.int (ii k)), none] [] (W_PX pq0 pq1 pq2 pq3 pq4 pq5 pq6 pq7 pq8 pq9 lc fo rn rl rp td br yn yl yp xk sq oq rs rm rd ro tm sk wd ys ym yd yo lx pr be ts) 0 0 Q := by
  intro nn
  induction nn using Nat.strongRecOn with
  | ind nn ih =>
  intro k pq6 pq7 pq8 pq9 hn k0 k1 c6 c7 hF
  refine j_iload_n d_Pap_tryHiding_2 rfl ?_
  refine z_iconst d_Pap_tryHiding_3 ?_
  refine z_icmp_ge (t := 81) d_Pap_tryHiding_4 (by decide) (by first | omega | exact hw _ | exact hx _ _ | assumption) (by first | omega | exact hw _ | exact hx _ _ | assumption) (fun h4 => ?_) (fun h4 => ?_)
  · rw [show (3 - k).toNat = 0 by omega] at hF
    unfold thF at hF
    cases hF
    exact j_return rfl d_Pap_tryHiding_81 hQ
  · rw [show (3 - k).toNat = (3 - (k + 1)).toNat + 1 by omega] at hF
    unfold thF thS at hF
    have hp1 := hP k a (by omega) (by omega) (by omega) (by omega)
    have hp2 := hP (k + 3) b (by omega) (by omega) (by omega) (by omega)
    dsimp only at hF
    refine j_aload_n d_Pap_tryHiding_7 rfl ?_
    refine gf_PX_0_13 f_Pap_55 d_Pap_tryHiding_8 ?_
    refine j_iload_n d_Pap_tryHiding_11 rfl ?_
    refine z_aald d_Pap_tryHiding_12 rfl (by decide) (by omega) (by omega) (by omega) ?_
    refine j_iload_n d_Pap_tryHiding_13 rfl ?_
    refine z_iald d_Pap_tryHiding_14 (PX_pr (by omega) (by omega)) (by omega) (by omega) (by omega) ?_
    refine j_aload_n d_Pap_tryHiding_15 rfl ?_
    refine gf_PX_0_13 f_Pap_55 d_Pap_tryHiding_16 ?_
    refine j_iload_n d_Pap_tryHiding_19 rfl ?_
    refine z_iconst d_Pap_tryHiding_20 ?_
    refine z_iadd d_Pap_tryHiding_21 ?_
    refine z_aald d_Pap_tryHiding_22 rfl (by decide) (by omega) (by omega) (by omega) ?_
    refine j_iload_n d_Pap_tryHiding_23 rfl ?_
    refine z_iald d_Pap_tryHiding_24 (PX_pr (by omega) (by omega)) (by omega) (by omega) (by omega) ?_
    refine z_iadd d_Pap_tryHiding_25 ?_
    refine j_istore d_Pap_tryHiding_26 (by decide) ?_
    show SJ _ _ _ _ [_, _, _, _, _] _ _ _ _ _
    refine j_iload d_Pap_tryHiding_28 rfl ?_
    refine j_aload_n d_Pap_tryHiding_30 rfl ?_
    refine gf_PX_0_6 f_Pap_30 d_Pap_tryHiding_31 ?_
    refine z_icmp_lt (t := 54) d_Pap_tryHiding_34 (by decide) (by first | omega | exact hw _ | exact hx _ _ | assumption) (by first | omega | exact hw _ | exact hx _ _ | assumption) (fun h34 => ?_) (fun h34 => ?_)
    · rw [if_pos (by first | (left; omega) | (right; omega))] at hF
      refine j_aload_n d_Pap_tryHiding_54 rfl ?_
      refine j_iload d_Pap_tryHiding_55 rfl ?_
      refine pf_PX_0_6 f_Pap_30 d_Pap_tryHiding_57 ?_
      refine j_aload_n d_Pap_tryHiding_60 rfl ?_
      refine j_iload_n d_Pap_tryHiding_61 rfl ?_
      refine pf_PX_0_7 f_Pap_33 d_Pap_tryHiding_62 ?_
      refine j_aload_n d_Pap_tryHiding_65 rfl ?_
      refine j_iload_n d_Pap_tryHiding_66 rfl ?_
      refine pf_PX_0_8 f_Pap_36 d_Pap_tryHiding_67 ?_
      refine j_aload_n d_Pap_tryHiding_70 rfl ?_
      refine j_iload_n d_Pap_tryHiding_71 rfl ?_
      refine pf_PX_0_9 f_Pap_39 d_Pap_tryHiding_72 ?_
      first
      | rw [if_neg (fun z => by rcases z with z | z <;> omega)] at hF
      | skip
      refine z_iinc d_Pap_tryHiding_75 rfl (by decide) ?_
      show SJ _ _ _ _ [_, _, _, _, _] _ _ _ _ _
      refine j_goto (t := 2) d_Pap_tryHiding_78 (by decide) ?_
      refine SJ.mask [true, true, true, true, false] ?_
      show SJ _ _ _ _ [_, _, _, _, none] _ _ _ _ _
      exact ih _ (by omega) (k + 1) _ _ _ _ rfl (by omega) (by omega) (by omega) (by omega) hF
    · refine j_iload d_Pap_tryHiding_37 rfl ?_
      refine j_aload_n d_Pap_tryHiding_39 rfl ?_
      refine gf_PX_0_6 f_Pap_30 d_Pap_tryHiding_40 ?_
      refine z_icmp_ne (t := 75) d_Pap_tryHiding_43 (by decide) (by first | omega | exact hw _ | exact hx _ _ | assumption) (by first | omega | exact hw _ | exact hx _ _ | assumption) (fun h43 => ?_) (fun h43 => ?_)
      · first
        | rw [if_neg (fun z => by rcases z with z | z <;> omega)] at hF
        | skip
        refine z_iinc d_Pap_tryHiding_75 rfl (by decide) ?_
        show SJ _ _ _ _ [_, _, _, _, _] _ _ _ _ _
        refine j_goto (t := 2) d_Pap_tryHiding_78 (by decide) ?_
        refine SJ.mask [true, true, true, true, false] ?_
        show SJ _ _ _ _ [_, _, _, _, none] _ _ _ _ _
        exact ih _ (by omega) (k + 1) _ _ _ _ rfl (by omega) (by omega) (by omega) (by omega) hF
      · refine j_iload_n d_Pap_tryHiding_46 rfl ?_
        refine j_aload_n d_Pap_tryHiding_47 rfl ?_
        refine gf_PX_0_7 f_Pap_33 d_Pap_tryHiding_48 ?_
        refine z_icmp_ge (t := 75) d_Pap_tryHiding_51 (by decide) (by first | omega | exact hw _ | exact hx _ _ | assumption) (by first | omega | exact hw _ | exact hx _ _ | assumption) (fun h51 => ?_) (fun h51 => ?_)
        · first
          | rw [if_neg (fun z => by rcases z with z | z <;> omega)] at hF
          | skip
          refine z_iinc d_Pap_tryHiding_75 rfl (by decide) ?_
          show SJ _ _ _ _ [_, _, _, _, _] _ _ _ _ _
          refine j_goto (t := 2) d_Pap_tryHiding_78 (by decide) ?_
          refine SJ.mask [true, true, true, true, false] ?_
          show SJ _ _ _ _ [_, _, _, _, none] _ _ _ _ _
          exact ih _ (by omega) (k + 1) _ _ _ _ rfl (by omega) (by omega) (by omega) (by omega) hF
        · rw [if_pos (by first | (left; omega) | (right; omega))] at hF
          refine j_aload_n d_Pap_tryHiding_54 rfl ?_
          refine j_iload d_Pap_tryHiding_55 rfl ?_
          refine pf_PX_0_6 f_Pap_30 d_Pap_tryHiding_57 ?_
          refine j_aload_n d_Pap_tryHiding_60 rfl ?_
          refine j_iload_n d_Pap_tryHiding_61 rfl ?_
          refine pf_PX_0_7 f_Pap_33 d_Pap_tryHiding_62 ?_
          refine j_aload_n d_Pap_tryHiding_65 rfl ?_
          refine j_iload_n d_Pap_tryHiding_66 rfl ?_
          refine pf_PX_0_8 f_Pap_36 d_Pap_tryHiding_67 ?_
          refine j_aload_n d_Pap_tryHiding_70 rfl ?_
          refine j_iload_n d_Pap_tryHiding_71 rfl ?_
          refine pf_PX_0_9 f_Pap_39 d_Pap_tryHiding_72 ?_
          first
          | rw [if_neg (fun z => by rcases z with z | z <;> omega)] at hF
          | skip
          refine z_iinc d_Pap_tryHiding_75 rfl (by decide) ?_
          show SJ _ _ _ _ [_, _, _, _, _] _ _ _ _ _
          refine j_goto (t := 2) d_Pap_tryHiding_78 (by decide) ?_
          refine SJ.mask [true, true, true, true, false] ?_
          show SJ _ _ _ _ [_, _, _, _, none] _ _ _ _ _
          exact ih _ (by omega) (k + 1) _ _ _ _ rfl (by omega) (by omega) (by omega) (by omega) hF
theorem t_Pap_tryHiding {g : Bool} {d : Nat} {Q : List xM → Option Value → Prop} {pq0 pq1 pq2 pq3 pq4 pq5 pq6 pq7 pq8 pq9 lc fo rn rl rp td br yn yl yp : Int} {xk sq oq rs rm rd ro tm sk wd ys ym yd yo : Int → Int} {lx : Nat → Option Nat} {pr be : Int → Int → Int} {ts : List TD} {n a b : Int} (n1_ : n ≤ 20) (a0_ : 0 ≤ a) (an_ : a ≤ n) (b0_ : 0 ≤ b) (bn_ : b ≤ n) (hP : ∀ s p, 0 ≤ s → s < 6 → 0 ≤ p → p ≤ n → 0 ≤ pr s p ∧ (pr s p ≤ 99 ∨ pr s p = 100000000)) {r6 r7 r8 r9 : Int} (c6 : R32 pq6) (c7 : R32 pq7) (hF : thF pr a b 3 0 (pq6, pq7, pq8, pq9) = (r6, r7, r8, r9)) (hQ : Q (W_PX pq0 pq1 pq2 pq3 pq4 pq5 r6 r7 r8 r9 lc fo rn rl rp td br yn yl yp xk sq oq rs rm rd ro tm sk wd ys ym yd yo lx pr be ts) none) : CT g m_Pap_tryHiding d [.ref 0, .int (ii a), .int (ii b)] (W_PX pq0 pq1 pq2 pq3 pq4 pq5 pq6 pq7 pq8 pq9 lc fo rn rl rp td br yn yl yp xk sq oq rs rm rd ro tm sk wd ys ym yd yo lx pr be ts) 0 0 Q := by
  refine CT.of (by decide) (Nat.le_of_ble_eq_true rfl) ?_
  show SJ _ _ _ _ [some (.ref 0), some (.int (ii a)), some (.int (ii b)), none, none] [] _ _ _ _
  refine z_iconst d_Pap_tryHiding_0 ?_
  refine j_istore_n d_Pap_tryHiding_1 (by decide) ?_
  show SJ _ _ _ _ [_, _, _, _, _] _ _ _ _ _
  exact lp_thd n1_ a0_ an_ b0_ bn_ hP hQ _ 0 _ _ _ _ rfl (by omega) (by omega) c6 c7 hF
