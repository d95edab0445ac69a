/-! A TEXT'S COPY -/
/-- what lies beyond an array's end is free -/
theorem j_ints {g : Bool} {y : xY} {d pc : Nat} {L : List (Option Value)} {st : List Value} {mem : List xM} {bc bs : Nat} {Q : List xM → Option Value → Prop} {i t n : Nat} {f f' : Nat → Int32} (hm : mem[i]? = some (.inl (t, n, .inl f))) (hf : ∀ j, j < n → f j = f' j) (kk : SJ g y d pc L st (mem.set i (.inl (t, n, .inl f'))) bc bs Q) : SJ g y d pc L st mem bc bs Q := by
  intro l ad ex dA D A p e s m args below meth c H locs cells slots ls mc ms hI
  have h1 : H[ad i]? = some (arrV (dA t) n (fun j => .int (f j))) := hI.2.2.1.1 i _ (x_w_at hm)
  have h2 : arrV (dA t) n (fun j => Value.int (f j)) = arrV (dA t) n (fun j => .int (f' j)) := arrV_eq (fun j hj => by rw [hf j hj])
  rw [h2] at h1
  exact kk ⟨hI.1, hI.2.1, hI.2.2.1.put hI.2.1.2.2.2.1 hm (q := .inl (t, n, .inl f')) h1 rfl (fun _ _ => rfl), hI.2.2.2.1, hI.2.2.2.2⟩
theorem n_copy12 {d : Nat} {Q : List xM → Option Value → Prop} {x : Int → Int} {m : Int} (m0 : 0 ≤ m) (m1 : m ≤ 12) (hQ : Q [.inl (0, 12, .inl (ia x)), .inl (0, m.toNat, .inl (ia x))] (some (.ref 1))) : CT true m_Arr_copyOf (d + 1) [.ref 0, .int (ii m)] [.inl (0, 12, .inl (ia x))] 1 12 Q := by
  have hR : R32 m := ⟨by omega, by omega⟩
  have hR2 : R32 12 := ⟨by decide, by decide⟩
  refine CT.of (by decide) (Nat.le_of_ble_eq_true rfl) ?_
  show SJ _ _ _ _ [some (.ref 0), some (.int (ii m)), none] [] _ _ _ _
  refine j_iload_n d_Arr_copyOf_0 rfl ?_
  refine j_aload_n d_Arr_copyOf_1 rfl ?_
  refine j_alen (v := ii 12) d_Arr_copyOf_2 rfl (by decide) rfl ?_
  refine z_icmp_ne (t := 14) d_Arr_copyOf_3 rfl hR hR2 (fun hne => ?_) (fun he => ?_)
  · refine j_iload_n d_Arr_copyOf_14 rfl ?_
    refine j_newa (t := 0) (N := m.toNat) (a0 := (m.toNat, .inl (ia (fun _ => 0)))) d_Arr_copyOf_15 rfl (fun _ => rfl) (fun _ _ h => h) wd_a_int (fun _ _ => rfl) (by rw [Int32.not_lt, Int32.le_iff_toInt_le, ii_toInt hR]; exact m0) (ii_nat hR) (by show m.toNat * 4 ≤ _; omega) (by decide) (by omega) ?_
    show SJ _ _ _ _ _ [.ref 1] [.inl (0, 12, .inl (ia x)), .inl (0, m.toNat, .inl (ia (fun _ => 0)))] _ _ _
    refine j_astore_n d_Arr_copyOf_17 (by decide) ?_
    show SJ _ _ _ _ [some (.ref 0), some (.int (ii m)), some (.ref 1)] [] _ _ _ _
    refine j_aload_n d_Arr_copyOf_18 rfl ?_
    refine z_iconst d_Arr_copyOf_19 ?_
    refine j_aload_n d_Arr_copyOf_20 rfl ?_
    refine z_iconst d_Arr_copyOf_21 ?_
    refine j_aload_n d_Arr_copyOf_22 rfl ?_
    refine j_alen (v := ii 12) d_Arr_copyOf_23 rfl (by decide) rfl ?_
    refine j_iload_n d_Arr_copyOf_24 rfl ?_
    refine z_min d_Arr_copyOf_25 mm_Arr_304 (Nat.le_of_ble_eq_true rfl) hR2 hR ?_
    refine z_copyI (i0 := 0) (i1 := 1) (n0 := 12) (n1 := m.toNat) (x := x) (z := fun _ => 0) d_Arr_copyOf_28 ac_Arr_150 rfl rfl (by decide) (by decide) (by omega) (by omega) (by omega) ⟨by decide, by decide⟩ ⟨by decide, by decide⟩ ⟨by omega, by omega⟩ (Nat.le_of_ble_eq_true rfl) ?_
    show SJ _ _ _ _ _ [] [.inl (0, 12, .inl (ia x)), .inl (0, m.toNat, .inl (ia (cpy x (fun _ => 0) 0 0 (min 12 m))))] _ _ _
    refine j_ints (i := 1) (t := 0) (n := m.toNat) (f' := ia x) rfl (fun j hj => ?_) ?_
    · show ii (if (0 : Int) ≤ (j : Int) ∧ (j : Int) < 0 + min 12 m then x (0 + ((j : Int) - 0)) else 0) = ii (x (j : Int))
      rw [if_pos (by omega), Int.sub_zero, Int.zero_add]
    refine j_aload_n d_Arr_copyOf_31 rfl ?_
    exact j_areturn rfl (Or.inr ⟨_, rfl⟩) (Or.inr ⟨_, rfl⟩) d_Arr_copyOf_32 hQ
  · subst he
    refine j_aload_n d_Arr_copyOf_6 rfl ?_
    refine j_clone (N := 12) (f := ia x) d_Arr_copyOf_7 (gi3 (i := 226) (by decide +kernel) (by decide +kernel)) (gi3 (i := 227) (by decide +kernel) (by decide +kernel)) (gi3 (i := 228) (by decide +kernel) (by decide +kernel)) (gi3 (i := 229) (by decide +kernel) (by decide +kernel)) (gi3 (i := 230) (by decide +kernel) (by decide +kernel)) rfl (Nat.le_of_ble_eq_true rfl) (by decide) (by decide) ?_
    show SJ _ _ _ _ _ [.ref 1] [.inl (0, 12, .inl (ia x)), .inl (0, 12, .inl (ia x))] _ _ _
    refine j_castA (N := 12) (f := ia x) d_Arr_copyOf_10 cl_Arr_317 rfl ?_
    exact j_areturn rfl (Or.inr ⟨_, rfl⟩) (Or.inr ⟨_, rfl⟩) d_Arr_copyOf_13 hQ
theorem n_copy436 {d : Nat} {Q : List xM → Option Value → Prop} {x : Int → Int} {m : Int} (m0 : 0 ≤ m) (m1 : m ≤ 436) (hQ : Q [.inl (0, 436, .inl (ia x)), .inl (0, m.toNat, .inl (ia x))] (some (.ref 1))) : CT true m_Arr_copyOf (d + 1) [.ref 0, .int (ii m)] [.inl (0, 436, .inl (ia x))] 1 436 Q := by
  have hR : R32 m := ⟨by omega, by omega⟩
  have hR2 : R32 436 := ⟨by decide, by decide⟩
  refine CT.of (by decide) (Nat.le_of_ble_eq_true rfl) ?_
  show SJ _ _ _ _ [some (.ref 0), some (.int (ii m)), none] [] _ _ _ _
  refine j_iload_n d_Arr_copyOf_0 rfl ?_
  refine j_aload_n d_Arr_copyOf_1 rfl ?_
  refine j_alen (v := ii 436) d_Arr_copyOf_2 rfl (by decide) rfl ?_
  refine z_icmp_ne (t := 14) d_Arr_copyOf_3 rfl hR hR2 (fun hne => ?_) (fun he => ?_)
  · refine j_iload_n d_Arr_copyOf_14 rfl ?_
    refine j_newa (t := 0) (N := m.toNat) (a0 := (m.toNat, .inl (ia (fun _ => 0)))) d_Arr_copyOf_15 rfl (fun _ => rfl) (fun _ _ h => h) wd_a_int (fun _ _ => rfl) (by rw [Int32.not_lt, Int32.le_iff_toInt_le, ii_toInt hR]; exact m0) (ii_nat hR) (by show m.toNat * 4 ≤ _; omega) (by decide) (by omega) ?_
    show SJ _ _ _ _ _ [.ref 1] [.inl (0, 436, .inl (ia x)), .inl (0, m.toNat, .inl (ia (fun _ => 0)))] _ _ _
    refine j_astore_n d_Arr_copyOf_17 (by decide) ?_
    show SJ _ _ _ _ [some (.ref 0), some (.int (ii m)), some (.ref 1)] [] _ _ _ _
    refine j_aload_n d_Arr_copyOf_18 rfl ?_
    refine z_iconst d_Arr_copyOf_19 ?_
    refine j_aload_n d_Arr_copyOf_20 rfl ?_
    refine z_iconst d_Arr_copyOf_21 ?_
    refine j_aload_n d_Arr_copyOf_22 rfl ?_
    refine j_alen (v := ii 436) d_Arr_copyOf_23 rfl (by decide) rfl ?_
    refine j_iload_n d_Arr_copyOf_24 rfl ?_
    refine z_min d_Arr_copyOf_25 mm_Arr_304 (Nat.le_of_ble_eq_true rfl) hR2 hR ?_
    refine z_copyI (i0 := 0) (i1 := 1) (n0 := 436) (n1 := m.toNat) (x := x) (z := fun _ => 0) d_Arr_copyOf_28 ac_Arr_150 rfl rfl (by decide) (by decide) (by omega) (by omega) (by omega) ⟨by decide, by decide⟩ ⟨by decide, by decide⟩ ⟨by omega, by omega⟩ (Nat.le_of_ble_eq_true rfl) ?_
    show SJ _ _ _ _ _ [] [.inl (0, 436, .inl (ia x)), .inl (0, m.toNat, .inl (ia (cpy x (fun _ => 0) 0 0 (min 436 m))))] _ _ _
    refine j_ints (i := 1) (t := 0) (n := m.toNat) (f' := ia x) rfl (fun j hj => ?_) ?_
    · show ii (if (0 : Int) ≤ (j : Int) ∧ (j : Int) < 0 + min 436 m then x (0 + ((j : Int) - 0)) else 0) = ii (x (j : Int))
      rw [if_pos (by omega), Int.sub_zero, Int.zero_add]
    refine j_aload_n d_Arr_copyOf_31 rfl ?_
    exact j_areturn rfl (Or.inr ⟨_, rfl⟩) (Or.inr ⟨_, rfl⟩) d_Arr_copyOf_32 hQ
  · subst he
    refine j_aload_n d_Arr_copyOf_6 rfl ?_
    refine j_clone (N := 436) (f := ia x) d_Arr_copyOf_7 (gi3 (i := 226) (by decide +kernel) (by decide +kernel)) (gi3 (i := 227) (by decide +kernel) (by decide +kernel)) (gi3 (i := 228) (by decide +kernel) (by decide +kernel)) (gi3 (i := 229) (by decide +kernel) (by decide +kernel)) (gi3 (i := 230) (by decide +kernel) (by decide +kernel)) rfl (Nat.le_of_ble_eq_true rfl) (by decide) (by decide) ?_
    show SJ _ _ _ _ _ [.ref 1] [.inl (0, 436, .inl (ia x)), .inl (0, 436, .inl (ia x))] _ _ _
    refine j_castA (N := 436) (f := ia x) d_Arr_copyOf_10 cl_Arr_317 rfl ?_
    exact j_areturn rfl (Or.inr ⟨_, rfl⟩) (Or.inr ⟨_, rfl⟩) d_Arr_copyOf_13 hQ
theorem n_Tex_init2 {tc sz : Int} {kn ff sc tt mm st vl : Int → Int} (h0 : 0 ≤ tc) (h1 : tc ≤ 12) (z0 : 0 ≤ sz) (z1 : sz ≤ 436) {d : Nat} {Q : List xM → Option Value → Prop} (hQ : Q [.inr (10, [.ref 9, .ref 10, .ref 11, .ref 12, .ref 13, .ref 14, .ref 15, .int (ii tc), .int (ii sz)]), .inr (10, [.ref 2, .ref 3, .ref 4, .ref 5, .ref 6, .ref 7, .ref 8, .int (ii tc), .int (ii sz)]), .inl (0, 12, .inl (ia kn)), .inl (0, 12, .inl (ia ff)), .inl (0, 12, .inl (ia sc)), .inl (0, 12, .inl (ia tt)), .inl (0, 12, .inl (ia mm)), .inl (0, 436, .inl (ia st)), .inl (0, 436, .inl (ia vl)), .inl (0, tc.toNat, .inl (ia kn)), .inl (0, tc.toNat, .inl (ia ff)), .inl (0, tc.toNat, .inl (ia sc)), .inl (0, tc.toNat, .inl (ia tt)), .inl (0, tc.toNat, .inl (ia mm)), .inl (0, sz.toNat, .inl (ia st)), .inl (0, sz.toNat, .inl (ia vl))] none) : CT true m_Tex_init2 (d + 2) [.ref 0, .ref 1] [.inr (10, [.null, .null, .null, .null, .null, .null, .null, .int (ii 0), .int (ii 0)]), .inr (10, [.ref 2, .ref 3, .ref 4, .ref 5, .ref 6, .ref 7, .ref 8, .int (ii tc), .int (ii sz)]), .inl (0, 12, .inl (ia kn)), .inl (0, 12, .inl (ia ff)), .inl (0, 12, .inl (ia sc)), .inl (0, 12, .inl (ia tt)), .inl (0, 12, .inl (ia mm)), .inl (0, 436, .inl (ia st)), .inl (0, 436, .inl (ia vl))] 7 932 Q := by
  refine CT.of (by decide) (Nat.le_of_ble_eq_true rfl) ?_
  show SJ _ _ _ _ [some (.ref 0), some (.ref 1)] [] _ _ _ _
  refine j_aload_n d_Tex_init2_0 rfl ?_
  refine j_objI d_Tex_init2_1 oi_Tex_3 (Nat.le_of_ble_eq_true rfl) ?_
  refine j_aload_n d_Tex_init2_4 rfl ?_
  refine z_iconst d_Tex_init2_5 ?_
  refine j_putf (ci := 10) (k := 7) d_Tex_init2_6 f_Tex_9 ⟨_, rfl, rfl, rfl⟩ rfl (Nat.le_of_ble_eq_true rfl) x_okI ?_
  show SJ _ _ _ _ _ [] [.inr (10, [.null, .null, .null, .null, .null, .null, .null, .int (ii 0), .int (ii 0)]), .inr (10, [.ref 2, .ref 3, .ref 4, .ref 5, .ref 6, .ref 7, .ref 8, .int (ii tc), .int (ii sz)]), .inl (0, 12, .inl (ia kn)), .inl (0, 12, .inl (ia ff)), .inl (0, 12, .inl (ia sc)), .inl (0, 12, .inl (ia tt)), .inl (0, 12, .inl (ia mm)), .inl (0, 436, .inl (ia st)), .inl (0, 436, .inl (ia vl))] _ _ _
  refine j_aload_n d_Tex_init2_9 rfl ?_
  refine z_iconst d_Tex_init2_10 ?_
  refine j_putf (ci := 10) (k := 8) d_Tex_init2_11 f_Tex_15 ⟨_, rfl, rfl, rfl⟩ rfl (Nat.le_of_ble_eq_true rfl) x_okI ?_
  show SJ _ _ _ _ _ [] [.inr (10, [.null, .null, .null, .null, .null, .null, .null, .int (ii 0), .int (ii 0)]), .inr (10, [.ref 2, .ref 3, .ref 4, .ref 5, .ref 6, .ref 7, .ref 8, .int (ii tc), .int (ii sz)]), .inl (0, 12, .inl (ia kn)), .inl (0, 12, .inl (ia ff)), .inl (0, 12, .inl (ia sc)), .inl (0, 12, .inl (ia tt)), .inl (0, 12, .inl (ia mm)), .inl (0, 436, .inl (ia st)), .inl (0, 436, .inl (ia vl))] _ _ _
  refine j_aload_n d_Tex_init2_14 rfl ?_
  refine j_aload_n d_Tex_init2_15 rfl ?_
  refine j_getf d_Tex_init2_16 f_Tex_9 rfl rfl ?_
  refine j_putf (ci := 10) (k := 7) d_Tex_init2_19 f_Tex_9 ⟨_, rfl, rfl, rfl⟩ rfl (Nat.le_of_ble_eq_true rfl) x_okI ?_
  show SJ _ _ _ _ _ [] [.inr (10, [.null, .null, .null, .null, .null, .null, .null, .int (ii tc), .int (ii 0)]), .inr (10, [.ref 2, .ref 3, .ref 4, .ref 5, .ref 6, .ref 7, .ref 8, .int (ii tc), .int (ii sz)]), .inl (0, 12, .inl (ia kn)), .inl (0, 12, .inl (ia ff)), .inl (0, 12, .inl (ia sc)), .inl (0, 12, .inl (ia tt)), .inl (0, 12, .inl (ia mm)), .inl (0, 436, .inl (ia st)), .inl (0, 436, .inl (ia vl))] _ _ _
  refine j_aload_n d_Tex_init2_22 rfl ?_
  refine j_aload_n d_Tex_init2_23 rfl ?_
  refine j_getf d_Tex_init2_24 f_Tex_15 rfl rfl ?_
  refine j_putf (ci := 10) (k := 8) d_Tex_init2_27 f_Tex_15 ⟨_, rfl, rfl, rfl⟩ rfl (Nat.le_of_ble_eq_true rfl) x_okI ?_
  show SJ _ _ _ _ _ [] [.inr (10, [.null, .null, .null, .null, .null, .null, .null, .int (ii tc), .int (ii sz)]), .inr (10, [.ref 2, .ref 3, .ref 4, .ref 5, .ref 6, .ref 7, .ref 8, .int (ii tc), .int (ii sz)]), .inl (0, 12, .inl (ia kn)), .inl (0, 12, .inl (ia ff)), .inl (0, 12, .inl (ia sc)), .inl (0, 12, .inl (ia tt)), .inl (0, 12, .inl (ia mm)), .inl (0, 436, .inl (ia st)), .inl (0, 436, .inl (ia vl))] _ _ _
  refine j_aload_n d_Tex_init2_30 rfl ?_
  refine j_aload_n d_Tex_init2_31 rfl ?_
  refine j_getf d_Tex_init2_32 f_Tex_18 rfl rfl ?_
  refine j_aload_n d_Tex_init2_35 rfl ?_
  refine j_getf d_Tex_init2_36 f_Tex_9 rfl rfl ?_
  refine j_callS (y2 := m_Arr_copyOf) (as := [.ref 2, .int (ii tc)]) (mc2 := 1) (ms2 := 12) d_Tex_init2_39 c_Tex_40 rfl rfl (Nat.le_of_ble_eq_true rfl) (Nat.le_of_ble_eq_true rfl) (Nat.le_of_ble_eq_true rfl) ?_
  refine CT.subG (sub := [.inl (0, 12, .inl (ia kn))]) (args := [.ref 0, .int (ii tc)]) (sgl [2] 8) (sgl_inj2 (by decide) (by decide)) (fun k => sgl_up rfl rfl k) (Emb.hs ⟨rfl, trivial⟩) rfl ?_
  refine n_copy12 h0 h1 ⟨(Nat.le_of_ble_eq_true rfl), ?_⟩
  show SJ _ _ _ _ _ [.ref 9, .ref 0] [.inr (10, [.null, .null, .null, .null, .null, .null, .null, .int (ii tc), .int (ii sz)]), .inr (10, [.ref 2, .ref 3, .ref 4, .ref 5, .ref 6, .ref 7, .ref 8, .int (ii tc), .int (ii sz)]), .inl (0, 12, .inl (ia kn)), .inl (0, 12, .inl (ia ff)), .inl (0, 12, .inl (ia sc)), .inl (0, 12, .inl (ia tt)), .inl (0, 12, .inl (ia mm)), .inl (0, 436, .inl (ia st)), .inl (0, 436, .inl (ia vl)), .inl (0, tc.toNat, .inl (ia kn))] _ _ _
  refine j_putF (ci := 10) (k := 0) d_Tex_init2_42 f_Tex_18 ⟨_, rfl, rfl, rfl⟩ rfl (fun q h => by cases h; rfl) rfl (Nat.le_of_ble_eq_true rfl) x_okA ?_
  show SJ _ _ _ _ _ [] [.inr (10, [.ref 9, .null, .null, .null, .null, .null, .null, .int (ii tc), .int (ii sz)]), .inr (10, [.ref 2, .ref 3, .ref 4, .ref 5, .ref 6, .ref 7, .ref 8, .int (ii tc), .int (ii sz)]), .inl (0, 12, .inl (ia kn)), .inl (0, 12, .inl (ia ff)), .inl (0, 12, .inl (ia sc)), .inl (0, 12, .inl (ia tt)), .inl (0, 12, .inl (ia mm)), .inl (0, 436, .inl (ia st)), .inl (0, 436, .inl (ia vl)), .inl (0, tc.toNat, .inl (ia kn))] _ _ _
  refine j_aload_n d_Tex_init2_45 rfl ?_
  refine j_aload_n d_Tex_init2_46 rfl ?_
  refine j_getf d_Tex_init2_47 f_Tex_22 rfl rfl ?_
  refine j_aload_n d_Tex_init2_50 rfl ?_
  refine j_getf d_Tex_init2_51 f_Tex_9 rfl rfl ?_
  refine j_callS (y2 := m_Arr_copyOf) (as := [.ref 3, .int (ii tc)]) (mc2 := 1) (ms2 := 12) d_Tex_init2_54 c_Tex_40 rfl rfl (Nat.le_of_ble_eq_true rfl) (Nat.le_of_ble_eq_true rfl) (Nat.le_of_ble_eq_true rfl) ?_
  refine CT.subG (sub := [.inl (0, 12, .inl (ia ff))]) (args := [.ref 0, .int (ii tc)]) (sgl [3] 9) (sgl_inj2 (by decide) (by decide)) (fun k => sgl_up rfl rfl k) (Emb.hs ⟨rfl, trivial⟩) rfl ?_
  refine n_copy12 h0 h1 ⟨(Nat.le_of_ble_eq_true rfl), ?_⟩
  show SJ _ _ _ _ _ [.ref 10, .ref 0] [.inr (10, [.ref 9, .null, .null, .null, .null, .null, .null, .int (ii tc), .int (ii sz)]), .inr (10, [.ref 2, .ref 3, .ref 4, .ref 5, .ref 6, .ref 7, .ref 8, .int (ii tc), .int (ii sz)]), .inl (0, 12, .inl (ia kn)), .inl (0, 12, .inl (ia ff)), .inl (0, 12, .inl (ia sc)), .inl (0, 12, .inl (ia tt)), .inl (0, 12, .inl (ia mm)), .inl (0, 436, .inl (ia st)), .inl (0, 436, .inl (ia vl)), .inl (0, tc.toNat, .inl (ia kn)), .inl (0, tc.toNat, .inl (ia ff))] _ _ _
  refine j_putF (ci := 10) (k := 1) d_Tex_init2_57 f_Tex_22 ⟨_, rfl, rfl, rfl⟩ rfl (fun q h => by cases h; rfl) rfl (Nat.le_of_ble_eq_true rfl) x_okA ?_
  show SJ _ _ _ _ _ [] [.inr (10, [.ref 9, .ref 10, .null, .null, .null, .null, .null, .int (ii tc), .int (ii sz)]), .inr (10, [.ref 2, .ref 3, .ref 4, .ref 5, .ref 6, .ref 7, .ref 8, .int (ii tc), .int (ii sz)]), .inl (0, 12, .inl (ia kn)), .inl (0, 12, .inl (ia ff)), .inl (0, 12, .inl (ia sc)), .inl (0, 12, .inl (ia tt)), .inl (0, 12, .inl (ia mm)), .inl (0, 436, .inl (ia st)), .inl (0, 436, .inl (ia vl)), .inl (0, tc.toNat, .inl (ia kn)), .inl (0, tc.toNat, .inl (ia ff))] _ _ _
  refine j_aload_n d_Tex_init2_60 rfl ?_
  refine j_aload_n d_Tex_init2_61 rfl ?_
  refine j_getf d_Tex_init2_62 f_Tex_25 rfl rfl ?_
  refine j_aload_n d_Tex_init2_65 rfl ?_
  refine j_getf d_Tex_init2_66 f_Tex_9 rfl rfl ?_
  refine j_callS (y2 := m_Arr_copyOf) (as := [.ref 4, .int (ii tc)]) (mc2 := 1) (ms2 := 12) d_Tex_init2_69 c_Tex_40 rfl rfl (Nat.le_of_ble_eq_true rfl) (Nat.le_of_ble_eq_true rfl) (Nat.le_of_ble_eq_true rfl) ?_
  refine CT.subG (sub := [.inl (0, 12, .inl (ia sc))]) (args := [.ref 0, .int (ii tc)]) (sgl [4] 10) (sgl_inj2 (by decide) (by decide)) (fun k => sgl_up rfl rfl k) (Emb.hs ⟨rfl, trivial⟩) rfl ?_
  refine n_copy12 h0 h1 ⟨(Nat.le_of_ble_eq_true rfl), ?_⟩
  show SJ _ _ _ _ _ [.ref 11, .ref 0] [.inr (10, [.ref 9, .ref 10, .null, .null, .null, .null, .null, .int (ii tc), .int (ii sz)]), .inr (10, [.ref 2, .ref 3, .ref 4, .ref 5, .ref 6, .ref 7, .ref 8, .int (ii tc), .int (ii sz)]), .inl (0, 12, .inl (ia kn)), .inl (0, 12, .inl (ia ff)), .inl (0, 12, .inl (ia sc)), .inl (0, 12, .inl (ia tt)), .inl (0, 12, .inl (ia mm)), .inl (0, 436, .inl (ia st)), .inl (0, 436, .inl (ia vl)), .inl (0, tc.toNat, .inl (ia kn)), .inl (0, tc.toNat, .inl (ia ff)), .inl (0, tc.toNat, .inl (ia sc))] _ _ _
  refine j_putF (ci := 10) (k := 2) d_Tex_init2_72 f_Tex_25 ⟨_, rfl, rfl, rfl⟩ rfl (fun q h => by cases h; rfl) rfl (Nat.le_of_ble_eq_true rfl) x_okA ?_
  show SJ _ _ _ _ _ [] [.inr (10, [.ref 9, .ref 10, .ref 11, .null, .null, .null, .null, .int (ii tc), .int (ii sz)]), .inr (10, [.ref 2, .ref 3, .ref 4, .ref 5, .ref 6, .ref 7, .ref 8, .int (ii tc), .int (ii sz)]), .inl (0, 12, .inl (ia kn)), .inl (0, 12, .inl (ia ff)), .inl (0, 12, .inl (ia sc)), .inl (0, 12, .inl (ia tt)), .inl (0, 12, .inl (ia mm)), .inl (0, 436, .inl (ia st)), .inl (0, 436, .inl (ia vl)), .inl (0, tc.toNat, .inl (ia kn)), .inl (0, tc.toNat, .inl (ia ff)), .inl (0, tc.toNat, .inl (ia sc))] _ _ _
  refine j_aload_n d_Tex_init2_75 rfl ?_
  refine j_aload_n d_Tex_init2_76 rfl ?_
  refine j_getf d_Tex_init2_77 f_Tex_28 rfl rfl ?_
  refine j_aload_n d_Tex_init2_80 rfl ?_
  refine j_getf d_Tex_init2_81 f_Tex_9 rfl rfl ?_
  refine j_callS (y2 := m_Arr_copyOf) (as := [.ref 5, .int (ii tc)]) (mc2 := 1) (ms2 := 12) d_Tex_init2_84 c_Tex_40 rfl rfl (Nat.le_of_ble_eq_true rfl) (Nat.le_of_ble_eq_true rfl) (Nat.le_of_ble_eq_true rfl) ?_
  refine CT.subG (sub := [.inl (0, 12, .inl (ia tt))]) (args := [.ref 0, .int (ii tc)]) (sgl [5] 11) (sgl_inj2 (by decide) (by decide)) (fun k => sgl_up rfl rfl k) (Emb.hs ⟨rfl, trivial⟩) rfl ?_
  refine n_copy12 h0 h1 ⟨(Nat.le_of_ble_eq_true rfl), ?_⟩
  show SJ _ _ _ _ _ [.ref 12, .ref 0] [.inr (10, [.ref 9, .ref 10, .ref 11, .null, .null, .null, .null, .int (ii tc), .int (ii sz)]), .inr (10, [.ref 2, .ref 3, .ref 4, .ref 5, .ref 6, .ref 7, .ref 8, .int (ii tc), .int (ii sz)]), .inl (0, 12, .inl (ia kn)), .inl (0, 12, .inl (ia ff)), .inl (0, 12, .inl (ia sc)), .inl (0, 12, .inl (ia tt)), .inl (0, 12, .inl (ia mm)), .inl (0, 436, .inl (ia st)), .inl (0, 436, .inl (ia vl)), .inl (0, tc.toNat, .inl (ia kn)), .inl (0, tc.toNat, .inl (ia ff)), .inl (0, tc.toNat, .inl (ia sc)), .inl (0, tc.toNat, .inl (ia tt))] _ _ _
  refine j_putF (ci := 10) (k := 3) d_Tex_init2_87 f_Tex_28 ⟨_, rfl, rfl, rfl⟩ rfl (fun q h => by cases h; rfl) rfl (Nat.le_of_ble_eq_true rfl) x_okA ?_
  show SJ _ _ _ _ _ [] [.inr (10, [.ref 9, .ref 10, .ref 11, .ref 12, .null, .null, .null, .int (ii tc), .int (ii sz)]), .inr (10, [.ref 2, .ref 3, .ref 4, .ref 5, .ref 6, .ref 7, .ref 8, .int (ii tc), .int (ii sz)]), .inl (0, 12, .inl (ia kn)), .inl (0, 12, .inl (ia ff)), .inl (0, 12, .inl (ia sc)), .inl (0, 12, .inl (ia tt)), .inl (0, 12, .inl (ia mm)), .inl (0, 436, .inl (ia st)), .inl (0, 436, .inl (ia vl)), .inl (0, tc.toNat, .inl (ia kn)), .inl (0, tc.toNat, .inl (ia ff)), .inl (0, tc.toNat, .inl (ia sc)), .inl (0, tc.toNat, .inl (ia tt))] _ _ _
  refine j_aload_n d_Tex_init2_90 rfl ?_
  refine j_aload_n d_Tex_init2_91 rfl ?_
  refine j_getf d_Tex_init2_92 f_Tex_31 rfl rfl ?_
  refine j_aload_n d_Tex_init2_95 rfl ?_
  refine j_getf d_Tex_init2_96 f_Tex_9 rfl rfl ?_
  refine j_callS (y2 := m_Arr_copyOf) (as := [.ref 6, .int (ii tc)]) (mc2 := 1) (ms2 := 12) d_Tex_init2_99 c_Tex_40 rfl rfl (Nat.le_of_ble_eq_true rfl) (Nat.le_of_ble_eq_true rfl) (Nat.le_of_ble_eq_true rfl) ?_
  refine CT.subG (sub := [.inl (0, 12, .inl (ia mm))]) (args := [.ref 0, .int (ii tc)]) (sgl [6] 12) (sgl_inj2 (by decide) (by decide)) (fun k => sgl_up rfl rfl k) (Emb.hs ⟨rfl, trivial⟩) rfl ?_
  refine n_copy12 h0 h1 ⟨(Nat.le_of_ble_eq_true rfl), ?_⟩
  show SJ _ _ _ _ _ [.ref 13, .ref 0] [.inr (10, [.ref 9, .ref 10, .ref 11, .ref 12, .null, .null, .null, .int (ii tc), .int (ii sz)]), .inr (10, [.ref 2, .ref 3, .ref 4, .ref 5, .ref 6, .ref 7, .ref 8, .int (ii tc), .int (ii sz)]), .inl (0, 12, .inl (ia kn)), .inl (0, 12, .inl (ia ff)), .inl (0, 12, .inl (ia sc)), .inl (0, 12, .inl (ia tt)), .inl (0, 12, .inl (ia mm)), .inl (0, 436, .inl (ia st)), .inl (0, 436, .inl (ia vl)), .inl (0, tc.toNat, .inl (ia kn)), .inl (0, tc.toNat, .inl (ia ff)), .inl (0, tc.toNat, .inl (ia sc)), .inl (0, tc.toNat, .inl (ia tt)), .inl (0, tc.toNat, .inl (ia mm))] _ _ _
  refine j_putF (ci := 10) (k := 4) d_Tex_init2_102 f_Tex_31 ⟨_, rfl, rfl, rfl⟩ rfl (fun q h => by cases h; rfl) rfl (Nat.le_of_ble_eq_true rfl) x_okA ?_
  show SJ _ _ _ _ _ [] [.inr (10, [.ref 9, .ref 10, .ref 11, .ref 12, .ref 13, .null, .null, .int (ii tc), .int (ii sz)]), .inr (10, [.ref 2, .ref 3, .ref 4, .ref 5, .ref 6, .ref 7, .ref 8, .int (ii tc), .int (ii sz)]), .inl (0, 12, .inl (ia kn)), .inl (0, 12, .inl (ia ff)), .inl (0, 12, .inl (ia sc)), .inl (0, 12, .inl (ia tt)), .inl (0, 12, .inl (ia mm)), .inl (0, 436, .inl (ia st)), .inl (0, 436, .inl (ia vl)), .inl (0, tc.toNat, .inl (ia kn)), .inl (0, tc.toNat, .inl (ia ff)), .inl (0, tc.toNat, .inl (ia sc)), .inl (0, tc.toNat, .inl (ia tt)), .inl (0, tc.toNat, .inl (ia mm))] _ _ _
  refine j_aload_n d_Tex_init2_105 rfl ?_
  refine j_aload_n d_Tex_init2_106 rfl ?_
  refine j_getf d_Tex_init2_107 f_Tex_34 rfl rfl ?_
  refine j_aload_n d_Tex_init2_110 rfl ?_
  refine j_getf d_Tex_init2_111 f_Tex_15 rfl rfl ?_
  refine j_callS (y2 := m_Arr_copyOf) (as := [.ref 7, .int (ii sz)]) (mc2 := 1) (ms2 := 436) d_Tex_init2_114 c_Tex_40 rfl rfl (Nat.le_of_ble_eq_true rfl) (Nat.le_of_ble_eq_true rfl) (Nat.le_of_ble_eq_true rfl) ?_
  refine CT.subG (sub := [.inl (0, 436, .inl (ia st))]) (args := [.ref 0, .int (ii sz)]) (sgl [7] 13) (sgl_inj2 (by decide) (by decide)) (fun k => sgl_up rfl rfl k) (Emb.hs ⟨rfl, trivial⟩) rfl ?_
  refine n_copy436 z0 z1 ⟨(Nat.le_of_ble_eq_true rfl), ?_⟩
  show SJ _ _ _ _ _ [.ref 14, .ref 0] [.inr (10, [.ref 9, .ref 10, .ref 11, .ref 12, .ref 13, .null, .null, .int (ii tc), .int (ii sz)]), .inr (10, [.ref 2, .ref 3, .ref 4, .ref 5, .ref 6, .ref 7, .ref 8, .int (ii tc), .int (ii sz)]), .inl (0, 12, .inl (ia kn)), .inl (0, 12, .inl (ia ff)), .inl (0, 12, .inl (ia sc)), .inl (0, 12, .inl (ia tt)), .inl (0, 12, .inl (ia mm)), .inl (0, 436, .inl (ia st)), .inl (0, 436, .inl (ia vl)), .inl (0, tc.toNat, .inl (ia kn)), .inl (0, tc.toNat, .inl (ia ff)), .inl (0, tc.toNat, .inl (ia sc)), .inl (0, tc.toNat, .inl (ia tt)), .inl (0, tc.toNat, .inl (ia mm)), .inl (0, sz.toNat, .inl (ia st))] _ _ _
  refine j_putF (ci := 10) (k := 5) d_Tex_init2_117 f_Tex_34 ⟨_, rfl, rfl, rfl⟩ rfl (fun q h => by cases h; rfl) rfl (Nat.le_of_ble_eq_true rfl) x_okA ?_
  show SJ _ _ _ _ _ [] [.inr (10, [.ref 9, .ref 10, .ref 11, .ref 12, .ref 13, .ref 14, .null, .int (ii tc), .int (ii sz)]), .inr (10, [.ref 2, .ref 3, .ref 4, .ref 5, .ref 6, .ref 7, .ref 8, .int (ii tc), .int (ii sz)]), .inl (0, 12, .inl (ia kn)), .inl (0, 12, .inl (ia ff)), .inl (0, 12, .inl (ia sc)), .inl (0, 12, .inl (ia tt)), .inl (0, 12, .inl (ia mm)), .inl (0, 436, .inl (ia st)), .inl (0, 436, .inl (ia vl)), .inl (0, tc.toNat, .inl (ia kn)), .inl (0, tc.toNat, .inl (ia ff)), .inl (0, tc.toNat, .inl (ia sc)), .inl (0, tc.toNat, .inl (ia tt)), .inl (0, tc.toNat, .inl (ia mm)), .inl (0, sz.toNat, .inl (ia st))] _ _ _
  refine j_aload_n d_Tex_init2_120 rfl ?_
  refine j_aload_n d_Tex_init2_121 rfl ?_
  refine j_getf d_Tex_init2_122 f_Tex_37 rfl rfl ?_
  refine j_aload_n d_Tex_init2_125 rfl ?_
  refine j_getf d_Tex_init2_126 f_Tex_15 rfl rfl ?_
  refine j_callS (y2 := m_Arr_copyOf) (as := [.ref 8, .int (ii sz)]) (mc2 := 1) (ms2 := 436) d_Tex_init2_129 c_Tex_40 rfl rfl (Nat.le_of_ble_eq_true rfl) (Nat.le_of_ble_eq_true rfl) (Nat.le_of_ble_eq_true rfl) ?_
  refine CT.subG (sub := [.inl (0, 436, .inl (ia vl))]) (args := [.ref 0, .int (ii sz)]) (sgl [8] 14) (sgl_inj2 (by decide) (by decide)) (fun k => sgl_up rfl rfl k) (Emb.hs ⟨rfl, trivial⟩) rfl ?_
  refine n_copy436 z0 z1 ⟨(Nat.le_of_ble_eq_true rfl), ?_⟩
  show SJ _ _ _ _ _ [.ref 15, .ref 0] [.inr (10, [.ref 9, .ref 10, .ref 11, .ref 12, .ref 13, .ref 14, .null, .int (ii tc), .int (ii sz)]), .inr (10, [.ref 2, .ref 3, .ref 4, .ref 5, .ref 6, .ref 7, .ref 8, .int (ii tc), .int (ii sz)]), .inl (0, 12, .inl (ia kn)), .inl (0, 12, .inl (ia ff)), .inl (0, 12, .inl (ia sc)), .inl (0, 12, .inl (ia tt)), .inl (0, 12, .inl (ia mm)), .inl (0, 436, .inl (ia st)), .inl (0, 436, .inl (ia vl)), .inl (0, tc.toNat, .inl (ia kn)), .inl (0, tc.toNat, .inl (ia ff)), .inl (0, tc.toNat, .inl (ia sc)), .inl (0, tc.toNat, .inl (ia tt)), .inl (0, tc.toNat, .inl (ia mm)), .inl (0, sz.toNat, .inl (ia st)), .inl (0, sz.toNat, .inl (ia vl))] _ _ _
  refine j_putF (ci := 10) (k := 6) d_Tex_init2_132 f_Tex_37 ⟨_, rfl, rfl, rfl⟩ rfl (fun q h => by cases h; rfl) rfl (Nat.le_of_ble_eq_true rfl) x_okA ?_
  show SJ _ _ _ _ _ [] [.inr (10, [.ref 9, .ref 10, .ref 11, .ref 12, .ref 13, .ref 14, .ref 15, .int (ii tc), .int (ii sz)]), .inr (10, [.ref 2, .ref 3, .ref 4, .ref 5, .ref 6, .ref 7, .ref 8, .int (ii tc), .int (ii sz)]), .inl (0, 12, .inl (ia kn)), .inl (0, 12, .inl (ia ff)), .inl (0, 12, .inl (ia sc)), .inl (0, 12, .inl (ia tt)), .inl (0, 12, .inl (ia mm)), .inl (0, 436, .inl (ia st)), .inl (0, 436, .inl (ia vl)), .inl (0, tc.toNat, .inl (ia kn)), .inl (0, tc.toNat, .inl (ia ff)), .inl (0, tc.toNat, .inl (ia sc)), .inl (0, tc.toNat, .inl (ia tt)), .inl (0, tc.toNat, .inl (ia mm)), .inl (0, sz.toNat, .inl (ia st)), .inl (0, sz.toNat, .inl (ia vl))] _ _ _
  exact j_return rfl d_Tex_init2_135 hQ
