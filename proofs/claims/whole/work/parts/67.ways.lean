/-! rows of rows -/
def rowsL (n len : Nat) (w : Int → Int → Int) : List xM := (List.range n).map (fun (k : Nat) => .inl (3, len, .inr (.inl (la (w (k : Int))))))
def upR (w : Int → Int → Int) (a : Int) (x : Int → Int) : Int → Int → Int := fun i => if i = a then x else w i
theorem upR_eq {w : Int → Int → Int} {a : Int} {x : Int → Int} : upR w a x a = x := if_pos rfl
theorem upR_ne {w : Int → Int → Int} {a j : Int} {x : Int → Int} (h : j ≠ a) : upR w a x j = w j := if_neg h
theorem rowsL_at {cs : List xM} {n len b : Nat} {w : Int → Int → Int} {a : Int} (hb : cs.length = b) (h0 : 0 ≤ a) (h1 : a < n) : (cs ++ rowsL n len w)[b + a.toNat]? = some (.inl (3, len, .inr (.inl (la (w a))))) := by
  rw [List.getElem?_append_right (by omega), show b + a.toNat - cs.length = a.toNat by omega]
  unfold rowsL
  rw [List.getElem?_map, List.getElem?_range (by omega)]
  show some (Sum.inl (3, len, Sum.inr (Sum.inl (la (w ((a.toNat : Nat) : Int)))))) = _
  rw [Int.toNat_of_nonneg h0]
theorem rowsL_set {cs : List xM} {n len b : Nat} {w : Int → Int → Int} {a : Int} {x : Int → Int} (hb : cs.length = b) (h0 : 0 ≤ a) (h1 : a < n) : (cs ++ rowsL n len w).set (b + a.toNat) (.inl (3, len, .inr (.inl (la x)))) = cs ++ rowsL n len (upR w a x) := by
  apply List.ext_getElem?
  intro i
  by_cases c : i = b + a.toNat
  · subst c
    rw [rowsL_at hb h0 h1, upR_eq, List.getElem?_set_self]
    rw [List.length_append]
    unfold rowsL
    rw [List.length_map, List.length_range]
    omega
  · rw [List.getElem?_set_ne (Ne.symm c)]
    by_cases c2 : i < cs.length
    · rw [List.getElem?_append_left c2, List.getElem?_append_left c2]
    · rw [List.getElem?_append_right (by omega), List.getElem?_append_right (by omega)]
      unfold rowsL
      rw [List.getElem?_map, List.getElem?_map]
      by_cases c3 : i - cs.length < n
      · rw [List.getElem?_range c3]
        show some (Sum.inl (3, len, Sum.inr (Sum.inl (la (w ((i - cs.length : Nat) : Int)))))) = some (Sum.inl (3, len, Sum.inr (Sum.inl (la (upR w a x ((i - cs.length : Nat) : Int))))))
        rw [upR_ne (by omega)]
      · rw [List.getElem?_eq_none (by rw [List.length_range]; omega)]
        rfl
def W_AF (fx : Int → Int) (LN : Nat) : List xM := [.inl (3, LN, .inr (.inl (la (fx))))]
section WR_AF
variable {g : Bool} {y : xY} {d pc : Nat} {L : List (Option Value)} {zst : List Value} {bc bs : Nat} {Q : List xM → Option Value → Prop} {fx : Int → Int} {LN : Nat} 
theorem al_AF_0 {a : Int} (hd : decode y.2.1 pc = .ok (.laload, 1)) (h0 : 0 ≤ a) (h1 : a < ((LN : Nat) : Int)) (ha : R32 a) (kk : SJ g y d (pc + 1) L (.long (ll (fx a)) :: zst) (W_AF fx LN) bc bs Q) : SJ g y d pc L (.int (ii a) :: .ref 0 :: zst) (W_AF fx LN) bc bs Q := z_lald hd rfl h0 h1 ha kk
theorem as_AF_0 {a v : Int} (hd : decode y.2.1 pc = .ok (.lastore, 1)) (h0 : 0 ≤ a) (h1 : a < ((LN : Nat) : Int)) (ha : R32 a) (kk : SJ g y d (pc + 1) L zst (W_AF (up fx a v) LN) bc bs Q) : SJ g y d pc L (.long (ll v) :: .int (ii a) :: .ref 0 :: zst) (W_AF fx LN) bc bs Q := z_last hd rfl h0 h1 ha kk
end WR_AF
def W_NU (rn : Int) (rl : Int) (rp : Int) (op : Int → Int) (pa : Int → Int) (pb : Int → Int) (rs : Int → Int) (rm : Int → Int) (rd : Int → Int) (ro : Int → Int) (wy : Int → Int → Int) : List xM := [.inr (3, [.ref 1, .ref 2, .ref 3, .ref 4]), .inl (8, 25, .inr (.inr (.inr (.inr (fun i => some (10 + i)))))), .inl (0, 13, .inl (ia (op))), .inl (3, 62, .inr (.inl (la (pa)))), .inl (3, 62, .inr (.inl (la (pb)))), .inr (5, [.ref 6, .int (ii rn), .ref 7, .ref 8, .ref 9, .int (ii rl), .int (ii rp)]), .inl (0, 20, .inl (ia (rs))), .inl (0, 20, .inl (ia (rm))), .inl (0, 20, .inl (ia (rd))), .inl (0, 20, .inl (ia (ro)))] ++ rowsL 25 14 wy
section WR_NU
variable {g : Bool} {y : xY} {d pc : Nat} {L : List (Option Value)} {zst : List Value} {bc bs : Nat} {Q : List xM → Option Value → Prop} {rn rl rp : Int} {op pa pb rs rm rd ro : Int → Int} {wy : Int → Int → Int} 
theorem gf_NU_0_0 {idx : Nat} (hf : x_fs y.1.cls idx 3 0) (hd : decode y.2.1 pc = .ok (.getfield idx, 3)) (kk : SJ g y d (pc + 3) L (.ref 1 :: zst) (W_NU rn rl rp op pa pb rs rm rd ro wy) bc bs Q) : SJ g y d pc L (.ref 0 :: zst) (W_NU rn rl rp op pa pb rs rm rd ro wy) bc bs Q := j_getf hd hf rfl rfl kk
theorem gf_NU_0_1 {idx : Nat} (hf : x_fs y.1.cls idx 3 1) (hd : decode y.2.1 pc = .ok (.getfield idx, 3)) (kk : SJ g y d (pc + 3) L (.ref 2 :: zst) (W_NU rn rl rp op pa pb rs rm rd ro wy) bc bs Q) : SJ g y d pc L (.ref 0 :: zst) (W_NU rn rl rp op pa pb rs rm rd ro wy) bc bs Q := j_getf hd hf rfl rfl kk
theorem gf_NU_0_2 {idx : Nat} (hf : x_fs y.1.cls idx 3 2) (hd : decode y.2.1 pc = .ok (.getfield idx, 3)) (kk : SJ g y d (pc + 3) L (.ref 3 :: zst) (W_NU rn rl rp op pa pb rs rm rd ro wy) bc bs Q) : SJ g y d pc L (.ref 0 :: zst) (W_NU rn rl rp op pa pb rs rm rd ro wy) bc bs Q := j_getf hd hf rfl rfl kk
theorem gf_NU_0_3 {idx : Nat} (hf : x_fs y.1.cls idx 3 3) (hd : decode y.2.1 pc = .ok (.getfield idx, 3)) (kk : SJ g y d (pc + 3) L (.ref 4 :: zst) (W_NU rn rl rp op pa pb rs rm rd ro wy) bc bs Q) : SJ g y d pc L (.ref 0 :: zst) (W_NU rn rl rp op pa pb rs rm rd ro wy) bc bs Q := j_getf hd hf rfl rfl kk
theorem al_NU_2 {a : Int} (hd : decode y.2.1 pc = .ok (.iaload, 1)) (h0 : 0 ≤ a) (h1 : a < 13) (kk : SJ g y d (pc + 1) L (.int (ii (op a)) :: zst) (W_NU rn rl rp op pa pb rs rm rd ro wy) bc bs Q) : SJ g y d pc L (.int (ii a) :: .ref 2 :: zst) (W_NU rn rl rp op pa pb rs rm rd ro wy) bc bs Q := z_iald hd rfl h0 h1 ⟨by omega, by omega⟩ kk
theorem as_NU_2 {a v : Int} (hd : decode y.2.1 pc = .ok (.iastore, 1)) (h0 : 0 ≤ a) (h1 : a < 13) (kk : SJ g y d (pc + 1) L zst (W_NU rn rl rp (up op a v) pa pb rs rm rd ro wy) bc bs Q) : SJ g y d pc L (.int (ii v) :: .int (ii a) :: .ref 2 :: zst) (W_NU rn rl rp op pa pb rs rm rd ro wy) bc bs Q := z_iast hd rfl h0 h1 ⟨by omega, by omega⟩ kk
theorem al_NU_3 {a : Int} (hd : decode y.2.1 pc = .ok (.laload, 1)) (h0 : 0 ≤ a) (h1 : a < 62) (kk : SJ g y d (pc + 1) L (.long (ll (pa a)) :: zst) (W_NU rn rl rp op pa pb rs rm rd ro wy) bc bs Q) : SJ g y d pc L (.int (ii a) :: .ref 3 :: zst) (W_NU rn rl rp op pa pb rs rm rd ro wy) bc bs Q := z_lald hd rfl h0 h1 ⟨by omega, by omega⟩ kk
theorem as_NU_3 {a v : Int} (hd : decode y.2.1 pc = .ok (.lastore, 1)) (h0 : 0 ≤ a) (h1 : a < 62) (kk : SJ g y d (pc + 1) L zst (W_NU rn rl rp op (up pa a v) pb rs rm rd ro wy) bc bs Q) : SJ g y d pc L (.long (ll v) :: .int (ii a) :: .ref 3 :: zst) (W_NU rn rl rp op pa pb rs rm rd ro wy) bc bs Q := z_last hd rfl h0 h1 ⟨by omega, by omega⟩ kk
theorem al_NU_4 {a : Int} (hd : decode y.2.1 pc = .ok (.laload, 1)) (h0 : 0 ≤ a) (h1 : a < 62) (kk : SJ g y d (pc + 1) L (.long (ll (pb a)) :: zst) (W_NU rn rl rp op pa pb rs rm rd ro wy) bc bs Q) : SJ g y d pc L (.int (ii a) :: .ref 4 :: zst) (W_NU rn rl rp op pa pb rs rm rd ro wy) bc bs Q := z_lald hd rfl h0 h1 ⟨by omega, by omega⟩ kk
theorem as_NU_4 {a v : Int} (hd : decode y.2.1 pc = .ok (.lastore, 1)) (h0 : 0 ≤ a) (h1 : a < 62) (kk : SJ g y d (pc + 1) L zst (W_NU rn rl rp op pa (up pb a v) rs rm rd ro wy) bc bs Q) : SJ g y d pc L (.long (ll v) :: .int (ii a) :: .ref 4 :: zst) (W_NU rn rl rp op pa pb rs rm rd ro wy) bc bs Q := z_last hd rfl h0 h1 ⟨by omega, by omega⟩ kk
theorem gf_NU_5_0 {idx : Nat} (hf : x_fs y.1.cls idx 5 0) (hd : decode y.2.1 pc = .ok (.getfield idx, 3)) (kk : SJ g y d (pc + 3) L (.ref 6 :: zst) (W_NU rn rl rp op pa pb rs rm rd ro wy) bc bs Q) : SJ g y d pc L (.ref 5 :: zst) (W_NU rn rl rp op pa pb rs rm rd ro wy) bc bs Q := j_getf hd hf rfl rfl kk
theorem gf_NU_5_1 {idx : Nat} (hf : x_fs y.1.cls idx 5 1) (hd : decode y.2.1 pc = .ok (.getfield idx, 3)) (kk : SJ g y d (pc + 3) L (.int (ii rn) :: zst) (W_NU rn rl rp op pa pb rs rm rd ro wy) bc bs Q) : SJ g y d pc L (.ref 5 :: zst) (W_NU rn rl rp op pa pb rs rm rd ro wy) bc bs Q := j_getf hd hf rfl rfl kk
theorem pf_NU_5_1 {idx : Nat} {v : Int} (hf : x_fs y.1.cls idx 5 1) (hd : decode y.2.1 pc = .ok (.putfield idx, 3)) (kk : SJ g y d (pc + 3) L zst (W_NU v rl rp op pa pb rs rm rd ro wy) bc bs Q) : SJ g y d pc L (.int (ii v) :: .ref 5 :: zst) (W_NU rn rl rp op pa pb rs rm rd ro wy) bc bs Q := j_putf (ci := 5) (k := 1) hd hf ⟨_, rfl, rfl, rfl⟩ rfl (Nat.le_of_ble_eq_true rfl) x_okI kk
theorem gf_NU_5_2 {idx : Nat} (hf : x_fs y.1.cls idx 5 2) (hd : decode y.2.1 pc = .ok (.getfield idx, 3)) (kk : SJ g y d (pc + 3) L (.ref 7 :: zst) (W_NU rn rl rp op pa pb rs rm rd ro wy) bc bs Q) : SJ g y d pc L (.ref 5 :: zst) (W_NU rn rl rp op pa pb rs rm rd ro wy) bc bs Q := j_getf hd hf rfl rfl kk
theorem gf_NU_5_3 {idx : Nat} (hf : x_fs y.1.cls idx 5 3) (hd : decode y.2.1 pc = .ok (.getfield idx, 3)) (kk : SJ g y d (pc + 3) L (.ref 8 :: zst) (W_NU rn rl rp op pa pb rs rm rd ro wy) bc bs Q) : SJ g y d pc L (.ref 5 :: zst) (W_NU rn rl rp op pa pb rs rm rd ro wy) bc bs Q := j_getf hd hf rfl rfl kk
theorem gf_NU_5_4 {idx : Nat} (hf : x_fs y.1.cls idx 5 4) (hd : decode y.2.1 pc = .ok (.getfield idx, 3)) (kk : SJ g y d (pc + 3) L (.ref 9 :: zst) (W_NU rn rl rp op pa pb rs rm rd ro wy) bc bs Q) : SJ g y d pc L (.ref 5 :: zst) (W_NU rn rl rp op pa pb rs rm rd ro wy) bc bs Q := j_getf hd hf rfl rfl kk
theorem gf_NU_5_5 {idx : Nat} (hf : x_fs y.1.cls idx 5 5) (hd : decode y.2.1 pc = .ok (.getfield idx, 3)) (kk : SJ g y d (pc + 3) L (.int (ii rl) :: zst) (W_NU rn rl rp op pa pb rs rm rd ro wy) bc bs Q) : SJ g y d pc L (.ref 5 :: zst) (W_NU rn rl rp op pa pb rs rm rd ro wy) bc bs Q := j_getf hd hf rfl rfl kk
theorem pf_NU_5_5 {idx : Nat} {v : Int} (hf : x_fs y.1.cls idx 5 5) (hd : decode y.2.1 pc = .ok (.putfield idx, 3)) (kk : SJ g y d (pc + 3) L zst (W_NU rn v rp op pa pb rs rm rd ro wy) bc bs Q) : SJ g y d pc L (.int (ii v) :: .ref 5 :: zst) (W_NU rn rl rp op pa pb rs rm rd ro wy) bc bs Q := j_putf (ci := 5) (k := 5) hd hf ⟨_, rfl, rfl, rfl⟩ rfl (Nat.le_of_ble_eq_true rfl) x_okI kk
theorem gf_NU_5_6 {idx : Nat} (hf : x_fs y.1.cls idx 5 6) (hd : decode y.2.1 pc = .ok (.getfield idx, 3)) (kk : SJ g y d (pc + 3) L (.int (ii rp) :: zst) (W_NU rn rl rp op pa pb rs rm rd ro wy) bc bs Q) : SJ g y d pc L (.ref 5 :: zst) (W_NU rn rl rp op pa pb rs rm rd ro wy) bc bs Q := j_getf hd hf rfl rfl kk
theorem pf_NU_5_6 {idx : Nat} {v : Int} (hf : x_fs y.1.cls idx 5 6) (hd : decode y.2.1 pc = .ok (.putfield idx, 3)) (hv : v = 0 ∨ v = 1) (kk : SJ g y d (pc + 3) L zst (W_NU rn rl v op pa pb rs rm rd ro wy) bc bs Q) : SJ g y d pc L (.int (ii v) :: .ref 5 :: zst) (W_NU rn rl rp op pa pb rs rm rd ro wy) bc bs Q := j_putf (ci := 5) (k := 6) hd hf ⟨_, rfl, rfl, rfl⟩ rfl (Nat.le_of_ble_eq_true rfl) (by rcases hv with rfl | rfl; exact x_ok0; exact x_ok1) kk
theorem al_NU_6 {a : Int} (hd : decode y.2.1 pc = .ok (.iaload, 1)) (h0 : 0 ≤ a) (h1 : a < 20) (kk : SJ g y d (pc + 1) L (.int (ii (rs a)) :: zst) (W_NU rn rl rp op pa pb rs rm rd ro wy) bc bs Q) : SJ g y d pc L (.int (ii a) :: .ref 6 :: zst) (W_NU rn rl rp op pa pb rs rm rd ro wy) bc bs Q := z_iald hd rfl h0 h1 ⟨by omega, by omega⟩ kk
theorem as_NU_6 {a v : Int} (hd : decode y.2.1 pc = .ok (.iastore, 1)) (h0 : 0 ≤ a) (h1 : a < 20) (kk : SJ g y d (pc + 1) L zst (W_NU rn rl rp op pa pb (up rs a v) rm rd ro wy) bc bs Q) : SJ g y d pc L (.int (ii v) :: .int (ii a) :: .ref 6 :: zst) (W_NU rn rl rp op pa pb rs rm rd ro wy) bc bs Q := z_iast hd rfl h0 h1 ⟨by omega, by omega⟩ kk
theorem al_NU_7 {a : Int} (hd : decode y.2.1 pc = .ok (.iaload, 1)) (h0 : 0 ≤ a) (h1 : a < 20) (kk : SJ g y d (pc + 1) L (.int (ii (rm a)) :: zst) (W_NU rn rl rp op pa pb rs rm rd ro wy) bc bs Q) : SJ g y d pc L (.int (ii a) :: .ref 7 :: zst) (W_NU rn rl rp op pa pb rs rm rd ro wy) bc bs Q := z_iald hd rfl h0 h1 ⟨by omega, by omega⟩ kk
theorem as_NU_7 {a v : Int} (hd : decode y.2.1 pc = .ok (.iastore, 1)) (h0 : 0 ≤ a) (h1 : a < 20) (kk : SJ g y d (pc + 1) L zst (W_NU rn rl rp op pa pb rs (up rm a v) rd ro wy) bc bs Q) : SJ g y d pc L (.int (ii v) :: .int (ii a) :: .ref 7 :: zst) (W_NU rn rl rp op pa pb rs rm rd ro wy) bc bs Q := z_iast hd rfl h0 h1 ⟨by omega, by omega⟩ kk
theorem al_NU_8 {a : Int} (hd : decode y.2.1 pc = .ok (.iaload, 1)) (h0 : 0 ≤ a) (h1 : a < 20) (kk : SJ g y d (pc + 1) L (.int (ii (rd a)) :: zst) (W_NU rn rl rp op pa pb rs rm rd ro wy) bc bs Q) : SJ g y d pc L (.int (ii a) :: .ref 8 :: zst) (W_NU rn rl rp op pa pb rs rm rd ro wy) bc bs Q := z_iald hd rfl h0 h1 ⟨by omega, by omega⟩ kk
theorem as_NU_8 {a v : Int} (hd : decode y.2.1 pc = .ok (.iastore, 1)) (h0 : 0 ≤ a) (h1 : a < 20) (kk : SJ g y d (pc + 1) L zst (W_NU rn rl rp op pa pb rs rm (up rd a v) ro wy) bc bs Q) : SJ g y d pc L (.int (ii v) :: .int (ii a) :: .ref 8 :: zst) (W_NU rn rl rp op pa pb rs rm rd ro wy) bc bs Q := z_iast hd rfl h0 h1 ⟨by omega, by omega⟩ kk
theorem al_NU_9 {a : Int} (hd : decode y.2.1 pc = .ok (.iaload, 1)) (h0 : 0 ≤ a) (h1 : a < 20) (kk : SJ g y d (pc + 1) L (.int (ii (ro a)) :: zst) (W_NU rn rl rp op pa pb rs rm rd ro wy) bc bs Q) : SJ g y d pc L (.int (ii a) :: .ref 9 :: zst) (W_NU rn rl rp op pa pb rs rm rd ro wy) bc bs Q := z_iald hd rfl h0 h1 ⟨by omega, by omega⟩ kk
theorem as_NU_9 {a v : Int} (hd : decode y.2.1 pc = .ok (.iastore, 1)) (h0 : 0 ≤ a) (h1 : a < 20) (kk : SJ g y d (pc + 1) L zst (W_NU rn rl rp op pa pb rs rm rd (up ro a v) wy) bc bs Q) : SJ g y d pc L (.int (ii v) :: .int (ii a) :: .ref 9 :: zst) (W_NU rn rl rp op pa pb rs rm rd ro wy) bc bs Q := z_iast hd rfl h0 h1 ⟨by omega, by omega⟩ kk
end WR_NU
theorem NU_at {rn rl rp : Int} {op pa pb rs rm rd ro : Int → Int} {wy : Int → Int → Int} {a : Int} (h0 : 0 ≤ a) (h1 : a < 25) : (W_NU rn rl rp op pa pb rs rm rd ro wy)[10 + a.toNat]? = some (.inl (3, 14, .inr (.inl (la (wy a))))) := rowsL_at rfl h0 h1
theorem NU_set {rn rl rp : Int} {op pa pb rs rm rd ro : Int → Int} {wy : Int → Int → Int} {a : Int} {x : Int → Int} (h0 : 0 ≤ a) (h1 : a < 25) : (W_NU rn rl rp op pa pb rs rm rd ro wy).set (10 + a.toNat) (.inl (3, 14, .inr (.inl (la x)))) = (W_NU rn rl rp op pa pb rs rm rd ro (upR wy a x)) := rowsL_set rfl h0 h1
theorem lp_fill {g : Bool} {d : Nat} {Q : List xM → Option Value → Prop} {LN : Nat} {v : Int} (hL : LN ≤ 1000) (hQ : ∀ fz, (∀ j, 0 ≤ j → j < (LN : Int) → fz j = v) → Q (W_AF fz LN) none) : ∀ (nn : Nat) (q : Int) (fx : Int → Int), ((LN : Int) - q).toNat = nn → 0 ≤ q → q ≤ (LN : Int) → (∀ j, 0 ≤ j → j < q → fx j = v) → SJ g m_Arr_fill d 6 [some (.ref 0), some (.long (ll v)), none, some (.int (ii q)), some (.int (ii ((LN : Int))))] [] (W_AF fx LN) 0 0 Q := by
  intro nn
  induction nn using Nat.strongRecOn with
  | ind nn ih =>
  intro q fx hn q0 q1 hq
  refine j_iload_n d_Arr_fill_6 rfl ?_
  refine j_iload d_Arr_fill_7 rfl ?_
  refine z_icmp_ge (t := 22) d_Arr_fill_9 (by decide) (by first | omega | exact hw _ | exact hx _ _ | assumption) (by first | omega | exact hw _ | exact hx _ _ | assumption) (fun h9 => ?_) (fun h9 => ?_)
  · exact j_return rfl d_Arr_fill_22 (hQ fx (fun j j0 j1 => hq j j0 (by omega)))
  · refine j_aload_n d_Arr_fill_12 rfl ?_
    refine j_iload_n d_Arr_fill_13 rfl ?_
    refine j_lload_n d_Arr_fill_14 rfl ?_
    refine as_AF_0 d_Arr_fill_15 (by omega) (by omega) (by omega) ?_
    refine z_iinc d_Arr_fill_16 rfl (by decide) ?_
    show SJ _ _ _ _ [_, _, _, _, _] _ _ _ _ _
    refine j_goto (t := 6) d_Arr_fill_19 (by decide) ?_
    refine ih _ (by omega) (q + 1) _ rfl (by omega) (by omega) (fun j j0 j1 => ?_)
    by_cases e : j = q
    · rw [e, up_eq]
    · rw [up_ne e]; exact hq j j0 (by omega)
theorem t_Arr_fill {g : Bool} {d : Nat} {Q : List xM → Option Value → Prop} {fx : Int → Int} {LN : Nat} {v : Int} (hL : LN ≤ 1000) (hQ : ∀ fz, (∀ j, 0 ≤ j → j < (LN : Int) → fz j = v) → Q (W_AF fz LN) none) : CT g m_Arr_fill d [.ref 0, .long (ll v)] (W_AF fx LN) 0 0 Q := by
  refine CT.of (by decide) (Nat.le_of_ble_eq_true rfl) ?_
  show SJ _ _ _ _ [some (.ref 0), some (.long (ll v)), none, none, none] [] _ _ _ _
  refine z_iconst d_Arr_fill_0 ?_
  refine j_istore_n d_Arr_fill_1 (by decide) ?_
  show SJ _ _ _ _ [_, _, _, _, _] _ _ _ _ _
  refine j_aload_n d_Arr_fill_2 rfl ?_
  refine j_alen d_Arr_fill_3 rfl (by decide) (show Int32.ofNat LN = ii ((LN : Nat) : Int) from rfl) ?_
  refine j_istore d_Arr_fill_4 (by decide) ?_
  show SJ _ _ _ _ [_, _, _, _, _] _ _ _ _ _
  exact lp_fill hL hQ _ 0 fx rfl (by omega) (by omega) (fun j j0 j1 => by omega)
theorem t_NU_fill0 {g : Bool} {d : Nat} {Q : List xM → Option Value → Prop} {rn rl rp : Int} {op pa pb rs rm rd ro : Int → Int} {wy : Int → Int → Int} {v : Int} (hQ : ∀ x, (∀ j, 0 ≤ j → j < 14 → x j = v) → Q (W_NU rn rl rp op pa pb rs rm rd ro (upR wy 0 x)) none) : CT g m_Arr_fill d [.ref (10 + (0 : Int).toNat), .long (ll v)] (W_NU rn rl rp op pa pb rs rm rd ro wy) 0 0 Q := by
  refine CT.sub (sub := W_AF (wy 0) 14) (args := [.ref 0, .long (ll v)]) (sgl [10] 11) (sgl_inj (by decide) (by decide)) (Emb.hs (Emb.cons rfl Emb.nil)) rfl ?_
  refine t_Arr_fill (by decide) (fun x hx => ⟨rfl, ?_⟩)
  have h := hQ x (fun j j0 j1 => hx j j0 j1)
  rw [← NU_set (a := 0) (by decide) (by decide)] at h
  exact h
theorem t_NU_filla {g : Bool} {d : Nat} {Q : List xM → Option Value → Prop} {rn rl rp : Int} {op pa pb rs rm rd ro : Int → Int} {wy : Int → Int → Int} {v : Int} (hQ : ∀ x, (∀ j, 0 ≤ j → j < 62 → x j = v) → Q (W_NU rn rl rp op x pb rs rm rd ro wy) none) : CT g m_Arr_fill d [.ref 3, .long (ll v)] (W_NU rn rl rp op pa pb rs rm rd ro wy) 0 0 Q := by
  refine CT.sub (sub := W_AF pa 62) (args := [.ref 0, .long (ll v)]) (sgl [3] 4) (sgl_inj (by decide) (by decide)) (Emb.hs (Emb.cons rfl Emb.nil)) rfl ?_
  exact t_Arr_fill (by decide) (fun x hx => ⟨rfl, hQ x (fun j j0 j1 => hx j j0 j1)⟩)
theorem t_NU_fillb {g : Bool} {d : Nat} {Q : List xM → Option Value → Prop} {rn rl rp : Int} {op pa pb rs rm rd ro : Int → Int} {wy : Int → Int → Int} {v : Int} (hQ : ∀ x, (∀ j, 0 ≤ j → j < 62 → x j = v) → Q (W_NU rn rl rp op pa x rs rm rd ro wy) none) : CT g m_Arr_fill d [.ref 4, .long (ll v)] (W_NU rn rl rp op pa pb rs rm rd ro wy) 0 0 Q := by
  refine CT.sub (sub := W_AF pb 62) (args := [.ref 0, .long (ll v)]) (sgl [4] 5) (sgl_inj (by decide) (by decide)) (Emb.hs (Emb.cons rfl Emb.nil)) rfl ?_
  exact t_Arr_fill (by decide) (fun x hx => ⟨rfl, hQ x (fun j j0 j1 => hx j j0 j1)⟩)
theorem lp_ways1 {g : Bool} {d : Nat} {Q : List xM → Option Value → Prop} {rn rl rp : Int} {op pa pb rs rm rd ro : Int → Int} {signs deep : Int} (s0 : 0 ≤ signs) (s1 : signs ≤ 24) (d0 : 0 ≤ deep) (d1 : deep ≤ 12) {left : Int} (f0 : 1 ≤ left) (f1 : left ≤ signs) (hkk : ∀ wy, (∀ a b, 0 ≤ a → a ≤ left → 0 ≤ b → b ≤ deep → wy a b = Wd deep a b) → SJ g m_Num_findWays (d + 1) 108 [some (.ref 0), some (.int (ii signs)), some (.int (ii deep)), some (.int (ii left)), none, none, none, none, none] [] (W_NU rn rl rp op pa pb rs rm rd ro wy) 0 0 Q) : ∀ (nn : Nat) (h : Int) (wy : Int → Int → Int), (deep + 1 - h).toNat = nn → 0 ≤ h → h ≤ deep + 1 → (∀ a b, 0 ≤ a → a ≤ left - 1 → 0 ≤ b → b ≤ deep → wy a b = Wd deep a b) → (∀ b, 0 ≤ b → b < h → wy left b = Wd deep left b) → SJ g m_Num_findWays (d + 1) 29 [some (.ref 0), some (.int (ii signs)), some (.int (ii deep)), some (.int (ii left)), some (.int (ii h)), none, none, none, none] [] (W_NU rn rl rp op pa pb rs rm rd ro wy) 0 0 Q := by
  intro nn
  induction nn using Nat.strongRecOn with
  | ind nn ih =>
  intro h wy hn h0 h1 hA hB
  refine j_iload d_Num_findWays_29 rfl ?_
  refine j_iload_n d_Num_findWays_31 rfl ?_
  refine z_icmp_gt (t := 108) d_Num_findWays_32 (by decide) (by first | omega | exact hw _ | exact hx _ _ | assumption) (by first | omega | exact hw _ | exact hx _ _ | assumption) (fun h32 => ?_) (fun h32 => ?_)
  · refine SJ.mask [true, true, true, true, false, true, true, true, true] ?_
    show SJ _ _ _ _ [_, _, _, _, none, none, none, none, none] _ _ _ _ _
    exact hkk wy (fun a b a0 a1 b0 b1 => by
      by_cases e : a = left
      · rw [e]; exact hB b b0 (by omega)
      · exact hA a b a0 (by omega) b0 b1)
  · refine j_iload d_Num_findWays_35 rfl ?_
    refine j_iload_n d_Num_findWays_37 rfl ?_
    refine z_icmp_ge (t := 61) d_Num_findWays_38 (by decide) (by first | omega | exact hw _ | exact hx _ _ | assumption) (by first | omega | exact hw _ | exact hx _ _ | assumption) (fun h38 => ?_) (fun h38 => ?_)
    · refine z_lconst (v := 0) d_Num_findWays_61 (by decide) ?_
      refine j_lstore d_Num_findWays_62 (by decide) ?_
      show SJ _ _ _ _ [_, _, _, _, _, _, _, _, _] _ _ _ _ _
      refine j_iload d_Num_findWays_64 rfl ?_
      refine z_if_le (t := 85) d_Num_findWays_66 (by decide) (by first | omega | exact hw _ | exact hx _ _ | assumption) (fun h66 => ?_) (fun h66 => ?_)
      · refine z_lconst (v := 0) d_Num_findWays_85 (by decide) ?_
        refine j_lstore d_Num_findWays_86 (by decide) ?_
        show SJ _ _ _ _ [_, _, _, _, _, _, _, _, _] _ _ _ _ _
        refine j_aload_n d_Num_findWays_88 rfl ?_
        refine gf_NU_0_0 f_Num_11 d_Num_findWays_89 ?_
        refine j_iload_n d_Num_findWays_92 rfl ?_
        refine z_aald d_Num_findWays_93 rfl (by decide) (by omega) (by omega) (by omega) ?_
        refine j_iload d_Num_findWays_94 rfl ?_
        refine j_lload d_Num_findWays_96 rfl ?_
        refine j_lload d_Num_findWays_98 rfl ?_
        refine z_ladd d_Num_findWays_100 ?_
        refine z_last d_Num_findWays_101 (NU_at (by omega) (by omega)) (by omega) (by omega) (by omega) ?_
        rw [NU_set (by omega) (by omega)]
        refine z_iinc d_Num_findWays_102 rfl (by decide) ?_
        show SJ _ _ _ _ [_, _, _, _, _, _, _, _, _] _ _ _ _ _
        refine j_goto (t := 29) d_Num_findWays_105 (by decide) ?_
        refine SJ.mask [true, true, true, true, true, false, true, false, true] ?_
        show SJ _ _ _ _ [_, _, _, _, _, none, none, none, none] _ _ _ _ _
        have hrec : Wd deep left h = (if h < deep then 3 * Wd deep (left - 1) (h + 1) else 0) + (if 0 < h then Wd deep (left - 1) (h - 1) else 0) := by
          rw [Wd_s (by omega), if_neg (by omega)]
          omega
        refine ih _ (by omega) (h + 1) _ rfl (by omega) (by omega) (fun a b a0 a1 b0 b1 => ?_) (fun b b0 b1 => ?_)
        · rw [upR_ne (by omega)]; exact hA a b a0 a1 b0 b1
        · rw [upR_eq]
          by_cases e : b = h
          · rw [e, up_eq, hrec]
            first
            | rw [if_pos (by omega), if_pos (by omega), hA (left - 1) (h + 1) (by omega) (by omega) (by omega) (by omega), hA (left - 1) (h - 1) (by omega) (by omega) (by omega) (by omega)]
            | rw [if_pos (by omega), if_neg (by omega), hA (left - 1) (h + 1) (by omega) (by omega) (by omega) (by omega)]
            | rw [if_neg (by omega), if_pos (by omega), hA (left - 1) (h - 1) (by omega) (by omega) (by omega) (by omega)]
            | rw [if_neg (by omega), if_neg (by omega)]
          · rw [up_ne e]; exact hB b b0 (by omega)
      · refine j_aload_n d_Num_findWays_69 rfl ?_
        refine gf_NU_0_0 f_Num_11 d_Num_findWays_70 ?_
        refine j_iload_n d_Num_findWays_73 rfl ?_
        refine z_iconst d_Num_findWays_74 ?_
        refine z_isub d_Num_findWays_75 ?_
        refine z_aald d_Num_findWays_76 rfl (by decide) (by omega) (by omega) (by omega) ?_
        refine j_iload d_Num_findWays_77 rfl ?_
        refine z_iconst d_Num_findWays_79 ?_
        refine z_isub d_Num_findWays_80 ?_
        refine z_lald d_Num_findWays_81 (NU_at (by omega) (by omega)) (by omega) (by omega) (by omega) ?_
        refine j_goto (t := 86) d_Num_findWays_82 (by decide) ?_
        refine j_lstore d_Num_findWays_86 (by decide) ?_
        show SJ _ _ _ _ [_, _, _, _, _, _, _, _, _] _ _ _ _ _
        refine j_aload_n d_Num_findWays_88 rfl ?_
        refine gf_NU_0_0 f_Num_11 d_Num_findWays_89 ?_
        refine j_iload_n d_Num_findWays_92 rfl ?_
        refine z_aald d_Num_findWays_93 rfl (by decide) (by omega) (by omega) (by omega) ?_
        refine j_iload d_Num_findWays_94 rfl ?_
        refine j_lload d_Num_findWays_96 rfl ?_
        refine j_lload d_Num_findWays_98 rfl ?_
        refine z_ladd d_Num_findWays_100 ?_
        refine z_last d_Num_findWays_101 (NU_at (by omega) (by omega)) (by omega) (by omega) (by omega) ?_
        rw [NU_set (by omega) (by omega)]
        refine z_iinc d_Num_findWays_102 rfl (by decide) ?_
        show SJ _ _ _ _ [_, _, _, _, _, _, _, _, _] _ _ _ _ _
        refine j_goto (t := 29) d_Num_findWays_105 (by decide) ?_
        refine SJ.mask [true, true, true, true, true, false, true, false, true] ?_
        show SJ _ _ _ _ [_, _, _, _, _, none, none, none, none] _ _ _ _ _
        have hrec : Wd deep left h = (if h < deep then 3 * Wd deep (left - 1) (h + 1) else 0) + (if 0 < h then Wd deep (left - 1) (h - 1) else 0) := by
          rw [Wd_s (by omega), if_neg (by omega)]
          omega
        refine ih _ (by omega) (h + 1) _ rfl (by omega) (by omega) (fun a b a0 a1 b0 b1 => ?_) (fun b b0 b1 => ?_)
        · rw [upR_ne (by omega)]; exact hA a b a0 a1 b0 b1
        · rw [upR_eq]
          by_cases e : b = h
          · rw [e, up_eq, hrec]
            first
            | rw [if_pos (by omega), if_pos (by omega), hA (left - 1) (h + 1) (by omega) (by omega) (by omega) (by omega), hA (left - 1) (h - 1) (by omega) (by omega) (by omega) (by omega)]
            | rw [if_pos (by omega), if_neg (by omega), hA (left - 1) (h + 1) (by omega) (by omega) (by omega) (by omega)]
            | rw [if_neg (by omega), if_pos (by omega), hA (left - 1) (h - 1) (by omega) (by omega) (by omega) (by omega)]
            | rw [if_neg (by omega), if_neg (by omega)]
          · rw [up_ne e]; exact hB b b0 (by omega)
    · refine z_ldc2 (w := 3) d_Num_findWays_41 k_Num_33 (by decide) ?_
      refine j_aload_n d_Num_findWays_44 rfl ?_
      refine gf_NU_0_0 f_Num_11 d_Num_findWays_45 ?_
      refine j_iload_n d_Num_findWays_48 rfl ?_
      refine z_iconst d_Num_findWays_49 ?_
      refine z_isub d_Num_findWays_50 ?_
      refine z_aald d_Num_findWays_51 rfl (by decide) (by omega) (by omega) (by omega) ?_
      refine j_iload d_Num_findWays_52 rfl ?_
      refine z_iconst d_Num_findWays_54 ?_
      refine z_iadd d_Num_findWays_55 ?_
      refine z_lald d_Num_findWays_56 (NU_at (by omega) (by omega)) (by omega) (by omega) (by omega) ?_
      refine z_lmul d_Num_findWays_57 ?_
      refine j_goto (t := 62) d_Num_findWays_58 (by decide) ?_
      refine j_lstore d_Num_findWays_62 (by decide) ?_
      show SJ _ _ _ _ [_, _, _, _, _, _, _, _, _] _ _ _ _ _
      refine j_iload d_Num_findWays_64 rfl ?_
      refine z_if_le (t := 85) d_Num_findWays_66 (by decide) (by first | omega | exact hw _ | exact hx _ _ | assumption) (fun h66 => ?_) (fun h66 => ?_)
      · refine z_lconst (v := 0) d_Num_findWays_85 (by decide) ?_
        refine j_lstore d_Num_findWays_86 (by decide) ?_
        show SJ _ _ _ _ [_, _, _, _, _, _, _, _, _] _ _ _ _ _
        refine j_aload_n d_Num_findWays_88 rfl ?_
        refine gf_NU_0_0 f_Num_11 d_Num_findWays_89 ?_
        refine j_iload_n d_Num_findWays_92 rfl ?_
        refine z_aald d_Num_findWays_93 rfl (by decide) (by omega) (by omega) (by omega) ?_
        refine j_iload d_Num_findWays_94 rfl ?_
        refine j_lload d_Num_findWays_96 rfl ?_
        refine j_lload d_Num_findWays_98 rfl ?_
        refine z_ladd d_Num_findWays_100 ?_
        refine z_last d_Num_findWays_101 (NU_at (by omega) (by omega)) (by omega) (by omega) (by omega) ?_
        rw [NU_set (by omega) (by omega)]
        refine z_iinc d_Num_findWays_102 rfl (by decide) ?_
        show SJ _ _ _ _ [_, _, _, _, _, _, _, _, _] _ _ _ _ _
        refine j_goto (t := 29) d_Num_findWays_105 (by decide) ?_
        refine SJ.mask [true, true, true, true, true, false, true, false, true] ?_
        show SJ _ _ _ _ [_, _, _, _, _, none, none, none, none] _ _ _ _ _
        have hrec : Wd deep left h = (if h < deep then 3 * Wd deep (left - 1) (h + 1) else 0) + (if 0 < h then Wd deep (left - 1) (h - 1) else 0) := by
          rw [Wd_s (by omega), if_neg (by omega)]
          omega
        refine ih _ (by omega) (h + 1) _ rfl (by omega) (by omega) (fun a b a0 a1 b0 b1 => ?_) (fun b b0 b1 => ?_)
        · rw [upR_ne (by omega)]; exact hA a b a0 a1 b0 b1
        · rw [upR_eq]
          by_cases e : b = h
          · rw [e, up_eq, hrec]
            first
            | rw [if_pos (by omega), if_pos (by omega), hA (left - 1) (h + 1) (by omega) (by omega) (by omega) (by omega), hA (left - 1) (h - 1) (by omega) (by omega) (by omega) (by omega)]
            | rw [if_pos (by omega), if_neg (by omega), hA (left - 1) (h + 1) (by omega) (by omega) (by omega) (by omega)]
            | rw [if_neg (by omega), if_pos (by omega), hA (left - 1) (h - 1) (by omega) (by omega) (by omega) (by omega)]
            | rw [if_neg (by omega), if_neg (by omega)]
          · rw [up_ne e]; exact hB b b0 (by omega)
      · refine j_aload_n d_Num_findWays_69 rfl ?_
        refine gf_NU_0_0 f_Num_11 d_Num_findWays_70 ?_
        refine j_iload_n d_Num_findWays_73 rfl ?_
        refine z_iconst d_Num_findWays_74 ?_
        refine z_isub d_Num_findWays_75 ?_
        refine z_aald d_Num_findWays_76 rfl (by decide) (by omega) (by omega) (by omega) ?_
        refine j_iload d_Num_findWays_77 rfl ?_
        refine z_iconst d_Num_findWays_79 ?_
        refine z_isub d_Num_findWays_80 ?_
        refine z_lald d_Num_findWays_81 (NU_at (by omega) (by omega)) (by omega) (by omega) (by omega) ?_
        refine j_goto (t := 86) d_Num_findWays_82 (by decide) ?_
        refine j_lstore d_Num_findWays_86 (by decide) ?_
        show SJ _ _ _ _ [_, _, _, _, _, _, _, _, _] _ _ _ _ _
        refine j_aload_n d_Num_findWays_88 rfl ?_
        refine gf_NU_0_0 f_Num_11 d_Num_findWays_89 ?_
        refine j_iload_n d_Num_findWays_92 rfl ?_
        refine z_aald d_Num_findWays_93 rfl (by decide) (by omega) (by omega) (by omega) ?_
        refine j_iload d_Num_findWays_94 rfl ?_
        refine j_lload d_Num_findWays_96 rfl ?_
        refine j_lload d_Num_findWays_98 rfl ?_
        refine z_ladd d_Num_findWays_100 ?_
        refine z_last d_Num_findWays_101 (NU_at (by omega) (by omega)) (by omega) (by omega) (by omega) ?_
        rw [NU_set (by omega) (by omega)]
        refine z_iinc d_Num_findWays_102 rfl (by decide) ?_
        show SJ _ _ _ _ [_, _, _, _, _, _, _, _, _] _ _ _ _ _
        refine j_goto (t := 29) d_Num_findWays_105 (by decide) ?_
        refine SJ.mask [true, true, true, true, true, false, true, false, true] ?_
        show SJ _ _ _ _ [_, _, _, _, _, none, none, none, none] _ _ _ _ _
        have hrec : Wd deep left h = (if h < deep then 3 * Wd deep (left - 1) (h + 1) else 0) + (if 0 < h then Wd deep (left - 1) (h - 1) else 0) := by
          rw [Wd_s (by omega), if_neg (by omega)]
          omega
        refine ih _ (by omega) (h + 1) _ rfl (by omega) (by omega) (fun a b a0 a1 b0 b1 => ?_) (fun b b0 b1 => ?_)
        · rw [upR_ne (by omega)]; exact hA a b a0 a1 b0 b1
        · rw [upR_eq]
          by_cases e : b = h
          · rw [e, up_eq, hrec]
            first
            | rw [if_pos (by omega), if_pos (by omega), hA (left - 1) (h + 1) (by omega) (by omega) (by omega) (by omega), hA (left - 1) (h - 1) (by omega) (by omega) (by omega) (by omega)]
            | rw [if_pos (by omega), if_neg (by omega), hA (left - 1) (h + 1) (by omega) (by omega) (by omega) (by omega)]
            | rw [if_neg (by omega), if_pos (by omega), hA (left - 1) (h - 1) (by omega) (by omega) (by omega) (by omega)]
            | rw [if_neg (by omega), if_neg (by omega)]
          · rw [up_ne e]; exact hB b b0 (by omega)
theorem lp_ways2 {g : Bool} {d : Nat} {Q : List xM → Option Value → Prop} {rn rl rp : Int} {op pa pb rs rm rd ro : Int → Int} {signs deep : Int} (s0 : 0 ≤ signs) (s1 : signs ≤ 24) (d0 : 0 ≤ deep) (d1 : deep ≤ 12) (hQ : ∀ wy, (∀ a b, 0 ≤ a → a ≤ signs → 0 ≤ b → b ≤ deep → wy a b = Wd deep a b) → Q (W_NU rn rl rp op pa pb rs rm rd ro wy) none) : ∀ (nn : Nat) (left : Int) (wy : Int → Int → Int), (signs + 1 - left).toNat = nn → 1 ≤ left → left ≤ signs + 1 → (∀ a b, 0 ≤ a → a ≤ left - 1 → 0 ≤ b → b ≤ deep → wy a b = Wd deep a b) → SJ g m_Num_findWays (d + 1) 21 [some (.ref 0), some (.int (ii signs)), some (.int (ii deep)), some (.int (ii left)), none, none, none, none, none] [] (W_NU rn rl rp op pa pb rs rm rd ro wy) 0 0 Q := by
  intro nn
  induction nn using Nat.strongRecOn with
  | ind nn ih =>
  intro left wy hn f0 f1 hA
  refine j_iload_n d_Num_findWays_21 rfl ?_
  refine j_iload_n d_Num_findWays_22 rfl ?_
  refine z_icmp_gt (t := 114) d_Num_findWays_23 (by decide) (by first | omega | exact hw _ | exact hx _ _ | assumption) (by first | omega | exact hw _ | exact hx _ _ | assumption) (fun h23 => ?_) (fun h23 => ?_)
  · exact j_return rfl d_Num_findWays_114 (hQ wy (fun a b a0 a1 b0 b1 => hA a b a0 (by omega) b0 b1))
  · refine z_iconst d_Num_findWays_26 ?_
    refine j_istore d_Num_findWays_27 (by decide) ?_
    show SJ _ _ _ _ [_, _, _, _, _, _, _, _, _] _ _ _ _ _
    refine lp_ways1 s0 s1 d0 d1 f0 (by omega) (fun wy hw2 => ?_) _ 0 wy rfl (by omega) (by omega) hA (fun b b0 b1 => by omega)
    refine z_iinc d_Num_findWays_108 rfl (by decide) ?_
    show SJ _ _ _ _ [_, _, _, _, _, _, _, _, _] _ _ _ _ _
    refine j_goto (t := 21) d_Num_findWays_111 (by decide) ?_
    exact ih _ (by omega) (left + 1) wy rfl (by omega) (by omega) (fun a b a0 a1 b0 b1 => hw2 a b a0 (by omega) b0 b1)
theorem t_Num_findWays {g : Bool} {d : Nat} {Q : List xM → Option Value → Prop} {rn rl rp : Int} {op pa pb rs rm rd ro : Int → Int} {wy : Int → Int → Int} {signs deep : Int} (s0 : 0 ≤ signs) (s1 : signs ≤ 24) (d0 : 0 ≤ deep) (d1 : deep ≤ 12) (hQ : ∀ wy, (∀ a b, 0 ≤ a → a ≤ signs → 0 ≤ b → b ≤ deep → wy a b = Wd deep a b) → Q (W_NU rn rl rp op pa pb rs rm rd ro wy) none) : CT g m_Num_findWays (d + 1) [.ref 0, .int (ii signs), .int (ii deep)] (W_NU rn rl rp op pa pb rs rm rd ro wy) 0 0 Q := by
  refine CT.of (by decide) (Nat.le_of_ble_eq_true rfl) ?_
  show SJ _ _ _ _ [some (.ref 0), some (.int (ii signs)), some (.int (ii deep)), none, none, none, none, none, none] [] _ _ _ _
  refine j_aload_n d_Num_findWays_0 rfl ?_
  refine gf_NU_0_0 f_Num_11 d_Num_findWays_1 ?_
  refine z_iconst d_Num_findWays_4 ?_
  refine z_aald d_Num_findWays_5 rfl (by decide) (by omega) (by omega) (by omega) ?_
  refine z_lconst (v := 0) d_Num_findWays_6 (by decide) ?_
  refine s_call2 d_Num_findWays_7 c_Num_27 (Nat.le_of_ble_eq_true rfl) (t_NU_fill0 (fun x hx => ?_))
  refine j_aload_n d_Num_findWays_10 rfl ?_
  refine gf_NU_0_0 f_Num_11 d_Num_findWays_11 ?_
  refine z_iconst d_Num_findWays_14 ?_
  refine z_aald d_Num_findWays_15 rfl (by decide) (by omega) (by omega) (by omega) ?_
  refine z_iconst d_Num_findWays_16 ?_
  refine z_lconst (v := 1) d_Num_findWays_17 (by decide) ?_
  refine z_last d_Num_findWays_18 (NU_at (by omega) (by omega)) (by omega) (by omega) (by omega) ?_
  rw [NU_set (by omega) (by omega)]
  refine z_iconst d_Num_findWays_19 ?_
  refine j_istore_n d_Num_findWays_20 (by decide) ?_
  show SJ _ _ _ _ [_, _, _, _, _, _, _, _, _] _ _ _ _ _
  refine lp_ways2 s0 s1 d0 d1 hQ _ 1 _ rfl (by omega) (by omega) (fun a b a0 a1 b0 b1 => ?_)
  have ea : a = 0 := by omega
  rw [ea, upR_eq, upR_eq, Wd_0]
  by_cases e : b = 0
  · rw [e, up_eq, if_pos rfl]
  · rw [up_ne e, if_neg e]; exact hx b b0 (by omega)
theorem t_Num_howMany {g : Bool} {d : Nat} {Q : List xM → Option Value → Prop} {rn rl rp : Int} {op pa pb rs rm rd ro : Int → Int} {wy : Int → Int → Int} {n deep : Int} (s0 : 0 ≤ n) (s1 : n ≤ 12) (d0 : 0 ≤ deep) (d1 : deep ≤ 12) (hQ : ∀ wy, (∀ a b, 0 ≤ a → a ≤ (2 * n) → 0 ≤ b → b ≤ deep → wy a b = Wd deep a b) → Q (W_NU rn rl rp op pa pb rs rm rd ro wy) (some (.long (ll (Wd deep (2 * n) 0))))) : CT g m_Num_howMany (d + 2) [.ref 0, .int (ii n), .int (ii deep)] (W_NU rn rl rp op pa pb rs rm rd ro wy) 0 0 Q := by
  refine CT.of (by decide) (Nat.le_of_ble_eq_true rfl) ?_
  show SJ _ _ _ _ [some (.ref 0), some (.int (ii n)), some (.int (ii deep))] [] _ _ _ _
  refine j_aload_n d_Num_howMany_0 rfl ?_
  refine z_iconst d_Num_howMany_1 ?_
  refine j_iload_n d_Num_howMany_2 rfl ?_
  refine z_imul d_Num_howMany_3 ?_
  refine j_iload_n d_Num_howMany_4 rfl ?_
  refine v_call2 d_Num_howMany_5 c_Num_35 rfl ⟨_, rfl, rfl⟩ (Nat.le_of_ble_eq_true rfl) (t_Num_findWays (by omega) (by omega) d0 d1 (fun wz hw2 => ?_))
  refine j_aload_n d_Num_howMany_8 rfl ?_
  refine gf_NU_0_0 f_Num_11 d_Num_howMany_9 ?_
  refine z_iconst d_Num_howMany_12 ?_
  refine j_iload_n d_Num_howMany_13 rfl ?_
  refine z_imul d_Num_howMany_14 ?_
  refine z_aald d_Num_howMany_15 rfl (by decide) (by omega) (by omega) (by omega) ?_
  refine z_iconst d_Num_howMany_16 ?_
  refine z_lald d_Num_howMany_17 (NU_at (by omega) (by omega)) (by omega) (by omega) (by omega) ?_
  exact z_lret rfl d_Num_howMany_18 (hw2 (2 * n) 0 (by omega) (by omega) (by omega) d0) (hQ wz hw2)
