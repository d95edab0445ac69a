/-! the law's world: the class's cells, the reference's, the texts -/
def sgC (i : Nat) : Nat := if i < 148 then i else i + 27
def sgM (i : Nat) : Nat := 148 + i
theorem sgC_inj (i j : Nat) (e : sgC i = sgC j) : i = j := by
  unfold sgC at e
  split at e <;> split at e <;> omega
theorem sgM_inj (i j : Nat) (e : sgM i = sgM j) : i = j := by
  unfold sgM at e
  omega
theorem sgC_hi (k : Nat) : sgC (148 + k) = 175 + k := by
  unfold sgC
  rw [if_neg (by omega)]
  omega
def HMw (C M : List xM) (ts : List TD) : List xM := C.map (r_e sgC) ++ (M.map (r_e sgM) ++ TX 175 ts)
theorem HMw_C {C M : List xM} {ts : List TD} {i : Nat} (hC : C.length = 148) (hi : i < 148) : (HMw C M ts)[i]? = (C.map (r_e sgC))[i]? := List.getElem?_append_left (by rw [List.length_map]; omega)
theorem HMw_M {C M : List xM} {ts : List TD} {i : Nat} (hC : C.length = 148) (hM : M.length = 27) (hi : i < 27) : (HMw C M ts)[148 + i]? = (M.map (r_e sgM))[i]? := by
  unfold HMw
  rw [List.getElem?_append_right (by rw [List.length_map]; omega), List.length_map, hC, show 148 + i - 148 = i by omega, List.getElem?_append_left (by rw [List.length_map]; omega)]
theorem HMw_T {C M : List xM} {ts : List TD} {i : Nat} (hC : C.length = 148) (hM : M.length = 27) : (HMw C M ts)[175 + i]? = (TX 175 ts)[i]? := by
  unfold HMw
  rw [List.getElem?_append_right (by rw [List.length_map]; omega), List.length_map, hC, List.getElem?_append_right (by rw [List.length_map]; omega), List.length_map, hM, show 175 + i - 148 - 27 = i by omega]
theorem HMw_len {C M : List xM} {ts : List TD} (hC : C.length = 148) (hM : M.length = 27) : (HMw C M ts).length = 175 + 8 * ts.length := by
  unfold HMw
  rw [List.length_append, List.length_append, List.length_map, List.length_map, TX_len, hC, hM]
  omega
theorem CT.post {g : Bool} {y : xY} {d : Nat} {args : List Value} {mem : List xM} {mc ms : Nat} {Q1 Q2 : List xM → Option Value → Prop} (h : CT g y d args mem mc ms Q1) (hq : ∀ m r, Q1 m r → Q2 m r) : CT g y d args mem mc ms Q2 := by
  intro l ad ex dA D A p e3 ha hc hk s m args1 below hf happ hP hK
  obtain ⟨n, o, h1, h2, h3, ⟨⟨mem, r, ho, hq1, hM2⟩, hV⟩, hrest⟩ := h p e3 ha hc hk s m args1 below hf happ hP hK
  exact ⟨n, o, h1, h2, h3, ⟨⟨mem, r, ho, hq _ _ hq1, hM2⟩, hV⟩, hrest⟩
theorem wb_ext {sg : Nat → Nat} {new big sub' : List xM} (hi : ∀ i j : Nat, sg i = sg j → i = j) (hlen : new.length = big.length) (hin : ∀ (j : Nat) (q : xM), sub'[j]? = some q → new[sg j]? = some (r_e sg q)) (hout : ∀ k, (∀ j, j < sub'.length → sg j ≠ k) → new[k]? = big[k]?) : wb sg 0 sub' big = new := by
  apply List.ext_getElem?
  intro k
  by_cases c : ∃ j, j < sub'.length ∧ sg j = k
  · obtain ⟨j, hj, rfl⟩ := c
    have h1 := hin j _ (List.getElem?_eq_getElem hj)
    have h2 := (List.getElem?_eq_some_iff.mp h1).1
    have h3 := wb_in hi sub' 0 big j _ (List.getElem?_eq_getElem hj) (by rw [Nat.zero_add]; omega)
    rw [Nat.zero_add] at h3
    rw [h1, h3]
  · rw [wb_out sub' 0 big (fun j hj e => c ⟨j, hj, by rw [Nat.zero_add] at e; exact e⟩)]
    exact (hout k (fun j hj e => c ⟨j, hj, e⟩)).symm
theorem HMw_in {C M : List xM} {ts : List TD} (hC : C.length = 148) (hM : M.length = 27) (i : Nat) (q : xM) (h : (C ++ TX 148 ts)[i]? = some q) : (HMw C M ts)[sgC i]? = some (r_e sgC q) := by
  by_cases c : i < 148
  · rw [List.getElem?_append_left (by omega)] at h
    rw [show sgC i = i from if_pos c, HMw_C hC c, List.getElem?_map, h]
    rfl
  · rw [List.getElem?_append_right (by omega), hC] at h
    have e : sgC i = 175 + (i - 148) := by
      have h2 := sgC_hi (i - 148)
      rw [show 148 + (i - 148) = i by omega] at h2
      exact h2
    rw [e, HMw_T hC hM, ← TX_map (sg := sgC) ts 148 175 sgC_hi, List.getElem?_map, h]
    rfl
theorem HMw_wb {C C' M : List xM} {ts : List TD} (hC : C.length = 148) (hC' : C'.length = 148) (hM : M.length = 27) : wb sgC 0 (C' ++ TX 148 ts) (HMw C M ts) = HMw C' M ts := by
  refine wb_ext sgC_inj (by rw [HMw_len hC' hM, HMw_len hC hM]) (fun j q h => HMw_in hC' hM j q h) (fun k hk => ?_)
  have hlen : (C' ++ TX 148 ts).length = 148 + 8 * ts.length := by rw [List.length_append, TX_len, hC']
  by_cases c : k < 148
  · exact absurd (show sgC k = k from if_pos c) (hk k (by omega))
  · by_cases c2 : k < 175
    · rw [show k = 148 + (k - 148) by omega, HMw_M hC' hM (by omega), HMw_M hC hM (by omega)]
    · by_cases c3 : k < 175 + 8 * ts.length
      · exact absurd (show sgC (148 + (k - 175)) = k by rw [sgC_hi]; omega) (hk _ (by omega))
      · rw [List.getElem?_eq_none (by rw [HMw_len hC' hM]; omega), List.getElem?_eq_none (by rw [HMw_len hC hM]; omega)]
theorem E_X0 {g : Bool} {y : xY} {d : Nat} {args as2 : List Value} {C M : List xM} {ts : List TD} {Q : List xM → Option Value → Prop} (hC : C.length = 148) (hM : M.length = 27) (ha2 : as2 = args.map (r_v sgC)) (h : CT false y d args (C ++ TX 148 ts) 0 0 (fun mem' r => ∃ C', mem' = C' ++ TX 148 ts ∧ C'.length = 148 ∧ r.map (r_v sgC) = r ∧ Q (HMw C' M ts) r)) : CT g y d as2 (HMw C M ts) 0 0 Q := by
  refine CT.sub sgC sgC_inj (HMw_in hC hM) ha2 (h.post fun m r hq => ?_)
  obtain ⟨C', e, hC', hr, hq⟩ := hq
  subst e
  refine ⟨by rw [List.length_append, List.length_append, hC, hC'], ?_⟩
  rw [HMw_wb hC hC' hM, hr]
  exact hq
theorem E_XG {y : xY} {d mc ms : Nat} {args as2 : List Value} {C M : List xM} {ts : List TD} {Q : List xM → Option Value → Prop} (hC : C.length = 148) (hM : M.length = 27) (ha2 : as2 = args.map (r_v sgC)) (h : CT true y d args (C ++ TX 148 ts) mc ms (fun mem' r => ∃ C' new, mem' = C' ++ TX 148 (ts ++ new) ∧ C'.length = 148 ∧ r.map (r_v sgC) = r ∧ Q (HMw C' M (ts ++ new)) r)) : CT true y d as2 (HMw C M ts) mc ms Q := by
  have hs : (C ++ TX 148 ts).length = 148 + 8 * ts.length := by rw [List.length_append, TX_len, hC]
  refine CT.subG sgC sgC_inj (fun k => by rw [hs, HMw_len hC hM, Nat.add_assoc, sgC_hi]; omega) (HMw_in hC hM) ha2 (h.post fun m r hq => ?_)
  obtain ⟨C', new, e, hC', hr, hq⟩ := hq
  subst e
  rw [TX_app]
  have hs' : (C' ++ TX 148 ts).length = 148 + 8 * ts.length := by rw [List.length_append, TX_len, hC']
  refine ⟨by rw [hs, List.length_append, List.length_append, TX_len, hC']; omega, ?_⟩
  rw [← List.append_assoc, List.take_left' (by rw [hs, hs']), List.drop_left' (by rw [hs, hs']), HMw_wb hC hC' hM, hr, TX_map new (148 + 8 * ts.length) (175 + 8 * ts.length) (fun k => by rw [Nat.add_assoc, sgC_hi]; omega)]
  have e2 : HMw C' M ts ++ TX (175 + 8 * ts.length) new = HMw C' M (ts ++ new) := by
    unfold HMw
    rw [TX_app, List.append_assoc, List.append_assoc]
  rw [e2]
  exact hq
theorem E_M {g : Bool} {y : xY} {d : Nat} {args as2 : List Value} {C M : List xM} {ts : List TD} {Q : List xM → Option Value → Prop} (hC : C.length = 148) (hM : M.length = 27) (ha2 : as2 = args.map (r_v sgM)) (h : CT false y d args M 0 0 (fun M' r => M'.length = 27 ∧ r.map (r_v sgM) = r ∧ Q (HMw C M' ts) r)) : CT g y d as2 (HMw C M ts) 0 0 Q := by
  refine CT.sub sgM sgM_inj (fun i q hq => ?_) ha2 (h.post fun m r hq => ?_)
  · have hi := (List.getElem?_eq_some_iff.mp hq).1
    rw [show sgM i = 148 + i from rfl, HMw_M hC hM (by omega), List.getElem?_map, hq]
    rfl
  · obtain ⟨hM', hr, hq⟩ := hq
    refine ⟨by omega, ?_⟩
    have e : wb sgM 0 m (HMw C M ts) = HMw C m ts := by
      refine wb_ext sgM_inj (by rw [HMw_len hC hM, HMw_len hC hM']) (fun j q h => ?_) (fun k hk => ?_)
      · have hj := (List.getElem?_eq_some_iff.mp h).1
        rw [show sgM j = 148 + j from rfl, HMw_M hC hM' (by omega), List.getElem?_map, h]
        rfl
      · by_cases c : k < 148
        · rw [HMw_C hC c, HMw_C hC c]
        · by_cases c2 : k < 175
          · exact absurd (show sgM (k - 148) = k by unfold sgM; omega) (hk _ (by omega))
          · rw [show k = 175 + (k - 175) by omega, HMw_T hC hM, HMw_T hC hM']
    rw [e, hr]
    exact hq
def C_H (hdn bl sp su lc fo rn rl rp pz pn fl td br dz ez rdn rlt rbr fz : Int) (rs rm rd ro tm kp by_ tk ps pv pw sk wd dk dl dg rsk wr rf : Int → Int) (qI aI bI cI gI pI yI : Nat → Int) (qF aF bF cF gF eF fF pF yF nF : Nat → Int → Int) (pr be wy : Int → Int → Int) (lx qx ax bx cx : Nat → Option Nat) : List xM := [.inr (11, [.ref 1, .ref 9, .ref 17, .ref 18, .ref 19, .ref 25, .ref 34, .ref 38, .ref 42, .ref 46, .ref 62, .ref 101, .ref 131, .int (ii hdn), .int (ii bl), .int (ii sp), .int (ii su)]), .inr (7, [.ref 2, .ref 7, .ref 8, .int (ii lc), .int (ii fo)]), .inr (5, [.ref 3, .int (ii rn), .ref 4, .ref 5, .ref 6, .int (ii rl), .int (ii rp)]), .inl (0, 20, .inl (ia (rs))), .inl (0, 20, .inl (ia (rm))), .inl (0, 20, .inl (ia (rd))), .inl (0, 20, .inl (ia (ro))), .inl (0, 3, .inl (ia (tm))), .inl (5, 6, .inr (.inr (.inr (.inr (lwR 148 lx))))), .inr (7, [.ref 10, .ref 15, .ref 16, .int (ii (qI 0)), .int (ii (qI 1))]), .inr (5, [.ref 11, .int (ii (qI 2)), .ref 12, .ref 13, .ref 14, .int (ii (qI 3)), .int (ii (qI 4))]), .inl (0, 20, .inl (ia ((qF 0)))), .inl (0, 20, .inl (ia ((qF 1)))), .inl (0, 20, .inl (ia ((qF 2)))), .inl (0, 20, .inl (ia ((qF 3)))), .inl (0, 3, .inl (ia ((qF 4)))), .inl (5, 6, .inr (.inr (.inr (.inr (lwR 148 qx))))), .inl (6, 2, .inr (.inr (.inr (.inr (fun i => some (132 + 8 * i)))))), .inl (2, 2, .inl (ia (kp))), .inr (9, [.ref 20, .int (ii pz), .ref 21, .ref 22, .ref 23, .int (ii pn), .ref 24]), .inl (0, 400, .inl (ia (by_))), .inl (0, 401, .inl (ia (tk))), .inl (0, 401, .inl (ia (ps))), .inl (0, 401, .inl (ia (pv))), .inl (4, 137, .inl (ia (pw))), .inr (2, [.ref 26, .int (ii fl), .ref 19, .int (ii (gI 0)), .int (ii (gI 1)), .int (ii (gI 2)), .int (ii (gI 3)), .int (ii (gI 4))]), .inr (10, [.ref 27, .ref 28, .ref 29, .ref 30, .ref 31, .ref 32, .ref 33, .int (ii (gI 5)), .int (ii (gI 6))]), .inl (0, 12, .inl (ia ((gF 0)))), .inl (0, 12, .inl (ia ((gF 1)))), .inl (0, 12, .inl (ia ((gF 2)))), .inl (0, 12, .inl (ia ((gF 3)))), .inl (0, 12, .inl (ia ((gF 4)))), .inl (0, 436, .inl (ia ((gF 5)))), .inl (0, 436, .inl (ia ((gF 6)))), .inr (0, [.ref 35, .ref 37, .int (ii td)]), .inr (8, [.int (ii br), .ref 36]), .inl (0, 51, .inl (ia (sk))), .inl (0, 52, .inl (ia (wd))), .inr (1, [.int (ii dz), .ref 34, .ref 1, .ref 39, .ref 40, .ref 41]), .inl (0, 16, .inl (ia (dk))), .inl (0, 16, .inl (ia (dl))), .inl (0, 16, .inl (ia (dg))), .inr (1, [.int (ii ez), .ref 34, .ref 9, .ref 43, .ref 44, .ref 45]), .inl (0, 16, .inl (ia ((eF 0)))), .inl (0, 16, .inl (ia ((eF 1)))), .inl (0, 16, .inl (ia ((eF 2)))), .inr (6, [.int (ii rdn), .ref 1, .ref 38, .ref 47, .ref 58, .ref 55, .ref 57, .int (ii rlt)]), .inr (7, [.ref 48, .ref 53, .ref 54, .int (ii (cI 0)), .int (ii (cI 1))]), .inr (5, [.ref 49, .int (ii (cI 2)), .ref 50, .ref 51, .ref 52, .int (ii (cI 3)), .int (ii (cI 4))]), .inl (0, 20, .inl (ia ((cF 0)))), .inl (0, 20, .inl (ia ((cF 1)))), .inl (0, 20, .inl (ia ((cF 2)))), .inl (0, 20, .inl (ia ((cF 3)))), .inl (0, 3, .inl (ia ((cF 4)))), .inl (5, 6, .inr (.inr (.inr (.inr (lwR 148 cx))))), .inr (8, [.int (ii rbr), .ref 56]), .inl (0, 51, .inl (ia (rsk))), .inl (0, 52, .inl (ia (wr))), .inr (1, [.int (ii fz), .ref 34, .ref 47, .ref 59, .ref 60, .ref 61]), .inl (0, 16, .inl (ia ((fF 0)))), .inl (0, 16, .inl (ia ((fF 1)))), .inl (0, 16, .inl (ia ((fF 2)))), .inr (4, [.int (ii (pI 0)), .int (ii (pI 1)), .int (ii (pI 2)), .int (ii (pI 3)), .int (ii (pI 4)), .int (ii (pI 5)), .int (ii (pI 6)), .int (ii (pI 7)), .int (ii (pI 8)), .int (ii (pI 9)), .ref 63, .ref 34, .ref 64, .ref 69, .ref 76, .ref 99, .ref 100]), .inl (2, 20, .inl (ia ((pF 0)))), .inr (5, [.ref 65, .int (ii (yI 0)), .ref 66, .ref 67, .ref 68, .int (ii (yI 1)), .int (ii (yI 2))]), .inl (0, 20, .inl (ia ((yF 0)))), .inl (0, 20, .inl (ia ((yF 1)))), .inl (0, 20, .inl (ia ((yF 2)))), .inl (0, 20, .inl (ia ((yF 3)))), .inl (7, 6, .inr (.inr (.inr (.inr (fun i => some (sgt PXL 148 (23 + i))))))), .inl (0, 21, .inl (ia ((pr 0)))), .inl (0, 21, .inl (ia ((pr 1)))), .inl (0, 21, .inl (ia ((pr 2)))), .inl (0, 21, .inl (ia ((pr 3)))), .inl (0, 21, .inl (ia ((pr 4)))), .inl (0, 21, .inl (ia ((pr 5)))), .inl (7, 22, .inr (.inr (.inr (.inr (fun i => some (sgt PXL 148 (29 + i))))))), .inl (0, 22, .inl (ia ((be 0)))), .inl (0, 22, .inl (ia ((be 1)))), .inl (0, 22, .inl (ia ((be 2)))), .inl (0, 22, .inl (ia ((be 3)))), .inl (0, 22, .inl (ia ((be 4)))), .inl (0, 22, .inl (ia ((be 5)))), .inl (0, 22, .inl (ia ((be 6)))), .inl (0, 22, .inl (ia ((be 7)))), .inl (0, 22, .inl (ia ((be 8)))), .inl (0, 22, .inl (ia ((be 9)))), .inl (0, 22, .inl (ia ((be 10)))), .inl (0, 22, .inl (ia ((be 11)))), .inl (0, 22, .inl (ia ((be 12)))), .inl (0, 22, .inl (ia ((be 13)))), .inl (0, 22, .inl (ia ((be 14)))), .inl (0, 22, .inl (ia ((be 15)))), .inl (0, 22, .inl (ia ((be 16)))), .inl (0, 22, .inl (ia ((be 17)))), .inl (0, 22, .inl (ia ((be 18)))), .inl (0, 22, .inl (ia ((be 19)))), .inl (0, 22, .inl (ia ((be 20)))), .inl (0, 22, .inl (ia ((be 21)))), .inl (0, 20, .inl (ia ((pF 1)))), .inl (0, 20, .inl (ia ((pF 2)))), .inr (3, [.ref 102, .ref 128, .ref 129, .ref 130]), .inl (8, 25, .inr (.inr (.inr (.inr (fun i => some (sgl NUL 148 (10 + i))))))), .inl (3, 14, .inr (.inl (la ((wy 0))))), .inl (3, 14, .inr (.inl (la ((wy 1))))), .inl (3, 14, .inr (.inl (la ((wy 2))))), .inl (3, 14, .inr (.inl (la ((wy 3))))), .inl (3, 14, .inr (.inl (la ((wy 4))))), .inl (3, 14, .inr (.inl (la ((wy 5))))), .inl (3, 14, .inr (.inl (la ((wy 6))))), .inl (3, 14, .inr (.inl (la ((wy 7))))), .inl (3, 14, .inr (.inl (la ((wy 8))))), .inl (3, 14, .inr (.inl (la ((wy 9))))), .inl (3, 14, .inr (.inl (la ((wy 10))))), .inl (3, 14, .inr (.inl (la ((wy 11))))), .inl (3, 14, .inr (.inl (la ((wy 12))))), .inl (3, 14, .inr (.inl (la ((wy 13))))), .inl (3, 14, .inr (.inl (la ((wy 14))))), .inl (3, 14, .inr (.inl (la ((wy 15))))), .inl (3, 14, .inr (.inl (la ((wy 16))))), .inl (3, 14, .inr (.inl (la ((wy 17))))), .inl (3, 14, .inr (.inl (la ((wy 18))))), .inl (3, 14, .inr (.inl (la ((wy 19))))), .inl (3, 14, .inr (.inl (la ((wy 20))))), .inl (3, 14, .inr (.inl (la ((wy 21))))), .inl (3, 14, .inr (.inl (la ((wy 22))))), .inl (3, 14, .inr (.inl (la ((wy 23))))), .inl (3, 14, .inr (.inl (la ((wy 24))))), .inl (0, 13, .inl (ia ((nF 0)))), .inl (3, 62, .inr (.inl (la ((nF 1))))), .inl (3, 62, .inr (.inl (la ((nF 2))))), .inl (0, 5, .inl (ia (rf))), .inr (7, [.ref 133, .ref 138, .ref 139, .int (ii (aI 0)), .int (ii (aI 1))]), .inr (5, [.ref 134, .int (ii (aI 2)), .ref 135, .ref 136, .ref 137, .int (ii (aI 3)), .int (ii (aI 4))]), .inl (0, 20, .inl (ia ((aF 0)))), .inl (0, 20, .inl (ia ((aF 1)))), .inl (0, 20, .inl (ia ((aF 2)))), .inl (0, 20, .inl (ia ((aF 3)))), .inl (0, 3, .inl (ia ((aF 4)))), .inl (5, 6, .inr (.inr (.inr (.inr (lwR 148 ax))))), .inr (7, [.ref 141, .ref 146, .ref 147, .int (ii (bI 0)), .int (ii (bI 1))]), .inr (5, [.ref 142, .int (ii (bI 2)), .ref 143, .ref 144, .ref 145, .int (ii (bI 3)), .int (ii (bI 4))]), .inl (0, 20, .inl (ia ((bF 0)))), .inl (0, 20, .inl (ia ((bF 1)))), .inl (0, 20, .inl (ia ((bF 2)))), .inl (0, 20, .inl (ia ((bF 3)))), .inl (0, 3, .inl (ia ((bF 4)))), .inl (5, 6, .inr (.inr (.inr (.inr (lwR 148 bx)))))]
theorem WH_eq {hdn bl sp su lc fo rn rl rp pz pn fl td br dz ez rdn rlt rbr fz : Int} {rs rm rd ro tm kp by_ tk ps pv pw sk wd dk dl dg rsk wr rf : Int → Int} {qI aI bI cI gI pI yI : Nat → Int} {qF aF bF cF gF eF fF pF yF nF : Nat → Int → Int} {pr be wy : Int → Int → Int} {lx qx ax bx cx : Nat → Option Nat} {ts : List TD} : (W_H hdn bl sp su lc fo rn rl rp pz pn fl td br dz ez rdn rlt rbr fz rs rm rd ro tm kp by_ tk ps pv pw sk wd dk dl dg rsk wr rf qI aI bI cI gI pI yI qF aF bF cF gF eF fF pF yF nF pr be wy lx qx ax bx cx ts) = (C_H hdn bl sp su lc fo rn rl rp pz pn fl td br dz ez rdn rlt rbr fz rs rm rd ro tm kp by_ tk ps pv pw sk wd dk dl dg rsk wr rf qI aI bI cI gI pI yI qF aF bF cF gF eF fF pF yF nF pr be wy lx qx ax bx cx) ++ TX 148 ts := rfl
/-! what holds between the class and the reference -/
def P1 (K : Int → Int) (lc fo rn rl rp : Int) (rs rm rd tm : Int → Int) (lx : Nat → Option Nat) (ts : List TD) : Prop := SI K lc fo rn rl rp rs rm rd tm ∧ LB K lx ts ∧ LXV lx ts
def TpR (pz i13 : Int) (by_ x11 : Int → Int) : Prop := pz = i13 ∧ (0 ≤ i13 ∧ i13 ≤ 400) ∧ ∀ j, 0 ≤ j → j < 400 → by_ j = ub (x11 j) ∧ -128 ≤ x11 j ∧ x11 j ≤ 127
def WdR (pw x7 : Int → Int) : Prop := (∀ j, 0 ≤ j → j < 137 → x7 j = ofL TA j) ∧ ∀ j, 0 ≤ j → j < 137 → pw j = ofL TB j
def DrR (hdn i51 ez : Int) (x50 : Int → Int) (qI : Nat → Int) (qF : Nat → Int → Int) (qx : Nat → Option Nat) (ts : List TD) : Prop := ((hdn = 0 ∧ i51 = -1) ∨ (hdn = 1 ∧ RI x50 (qI 2) (qI 3) (qI 4) (qF 0) (qF 1) (qF 2) ∧ i51 = lo x50 0 (x50 0))) ∧ (0 ≤ x50 0 ∧ x50 0 ≤ 20) ∧ LXV qx ts ∧ (0 ≤ ez ∧ ez ≤ 16)
def im (x3 : Int → Int) (k : Int) : Int → Int := fun j => x3 (5633 * k + j)
def ImR (k : Int) (kp x4 x3 : Int → Int) (I : Nat → Int) (F : Nat → Int → Int) (ax : Nat → Option Nat) (ts : List TD) : Prop := kp k = x4 k ∧ (kp k = 0 ∨ kp k = 1) ∧ (kp k = 1 → SI (im x3 k) (I 0) (I 1) (I 2) (I 3) (I 4) (F 0) (F 1) (F 2) (F 4) ∧ LB (im x3 k) ax ts) ∧ LXV ax ts
def INVm (mem : List xM) : Prop := ∀ P : List xM → Prop, (∀ (hdn bl sp su lc fo rn rl rp pz pn fl td br dz ez rdn rlt rbr fz : Int) (rs rm rd ro tm kp by_ tk ps pv pw sk wd dk dl dg rsk wr rf : Int → Int) (qI aI bI cI gI pI yI : Nat → Int) (qF aF bF cF gF eF fF pF yF nF : Nat → Int → Int) (pr be wy : Int → Int → Int) (lx qx ax bx cx : Nat → Option Nat) (ts : List TD) (i0 i6 i8 i9 i10 i13 i14 i18 i19 i20 i21 i22 i23 i24 i25 i27 i28 i33 i42 i43 i44 i45 i46 i47 i48 i51 i52 : Int) (x1 x2 x3 x4 x5 x7 x11 x12 x15 x16 x17 x26 x29 x30 x31 x32 x34 x35 x36 x37 x38 x39 x40 x41 x49 x50 : Int → Int), (P1 x2 lc fo rn rl rp rs rm rd tm lx ts) → (UR x2 x31 i33 dk dl dg ∧ dz = i33) → (TpR pz i13 by_ x11) → (WdR pw x7) → (su = i0 ∧ bl = i6 ∧ fl = i14 ∧ sp = i42) → (RfR rf x1) → (rgo (x49 0) ∧ rgo (x49 1)) → (DrR hdn i51 ez x50 qI qF qx ts) → (ImR 0 kp x4 x3 aI aF ax ts) → (ImR 1 kp x4 x3 bI bF bx ts) → (LXV cx ts ∧ R32 (pI 7)) → (∀ j, x4 j = 0 ∨ x4 j = 1) → P (HMw (C_H hdn bl sp su lc fo rn rl rp pz pn fl td br dz ez rdn rlt rbr fz rs rm rd ro tm kp by_ tk ps pv pw sk wd dk dl dg rsk wr rf qI aI bI cI gI pI yI qF aF bF cF gF eF fF pF yF nF pr be wy lx qx ax bx cx) (MM i0 i6 i8 i9 i10 i13 i14 i18 i19 i20 i21 i22 i23 i24 i25 i27 i28 i33 i42 i43 i44 i45 i46 i47 i48 i51 i52 x1 x2 x3 x4 x5 x7 x11 x12 x15 x16 x17 x26 x29 x30 x31 x32 x34 x35 x36 x37 x38 x39 x40 x41 x49 x50) ts)) → P mem
theorem INVmk {hdn bl sp su lc fo rn rl rp pz pn fl td br dz ez rdn rlt rbr fz : Int} {rs rm rd ro tm kp by_ tk ps pv pw sk wd dk dl dg rsk wr rf : Int → Int} {qI aI bI cI gI pI yI : Nat → Int} {qF aF bF cF gF eF fF pF yF nF : Nat → Int → Int} {pr be wy : Int → Int → Int} {lx qx ax bx cx : Nat → Option Nat} {ts : List TD} {i0 i6 i8 i9 i10 i13 i14 i18 i19 i20 i21 i22 i23 i24 i25 i27 i28 i33 i42 i43 i44 i45 i46 i47 i48 i51 i52 : Int} {x1 x2 x3 x4 x5 x7 x11 x12 x15 x16 x17 x26 x29 x30 x31 x32 x34 x35 x36 x37 x38 x39 x40 x41 x49 x50 : Int → Int} (h1 : P1 x2 lc fo rn rl rp rs rm rd tm lx ts) (h2 : UR x2 x31 i33 dk dl dg ∧ dz = i33) (h3 : TpR pz i13 by_ x11) (h4 : WdR pw x7) (h5 : su = i0 ∧ bl = i6 ∧ fl = i14 ∧ sp = i42) (h6 : RfR rf x1) (h7 : rgo (x49 0) ∧ rgo (x49 1)) (h8 : DrR hdn i51 ez x50 qI qF qx ts) (h9 : ImR 0 kp x4 x3 aI aF ax ts) (h10 : ImR 1 kp x4 x3 bI bF bx ts) (h11 : LXV cx ts ∧ R32 (pI 7)) (h12 : ∀ j, x4 j = 0 ∨ x4 j = 1) : INVm (HMw (C_H hdn bl sp su lc fo rn rl rp pz pn fl td br dz ez rdn rlt rbr fz rs rm rd ro tm kp by_ tk ps pv pw sk wd dk dl dg rsk wr rf qI aI bI cI gI pI yI qF aF bF cF gF eF fF pF yF nF pr be wy lx qx ax bx cx) (MM i0 i6 i8 i9 i10 i13 i14 i18 i19 i20 i21 i22 i23 i24 i25 i27 i28 i33 i42 i43 i44 i45 i46 i47 i48 i51 i52 x1 x2 x3 x4 x5 x7 x11 x12 x15 x16 x17 x26 x29 x30 x31 x32 x34 x35 x36 x37 x38 x39 x40 x41 x49 x50) ts) := fun P h => h hdn bl sp su lc fo rn rl rp pz pn fl td br dz ez rdn rlt rbr fz rs rm rd ro tm kp by_ tk ps pv pw sk wd dk dl dg rsk wr rf qI aI bI cI gI pI yI qF aF bF cF gF eF fF pF yF nF pr be wy lx qx ax bx cx ts i0 i6 i8 i9 i10 i13 i14 i18 i19 i20 i21 i22 i23 i24 i25 i27 i28 i33 i42 i43 i44 i45 i46 i47 i48 i51 i52 x1 x2 x3 x4 x5 x7 x11 x12 x15 x16 x17 x26 x29 x30 x31 x32 x34 x35 x36 x37 x38 x39 x40 x41 x49 x50 h1 h2 h3 h4 h5 h6 h7 h8 h9 h10 h11 h12
