/-! THE TAPE'S CONSTRUCTOR: the one text of the class, its characters -/
section SJC
variable {g : Bool} {y : xY} {d pc : Nat} {L : List (Option Value)} {st : List Value} {mem : List xM} {bc bs : Nat} {Q : List xM → Option Value → Prop}
theorem j_aload_nX {i : Fin 4} {j : Nat} (hd : decode y.2.1 pc = .ok (.aload_n i, 1)) (hl : L[(i : Nat)]? = some (some (.retAddr j))) (k : SJ g y d (pc + 1) L (.retAddr j :: st) mem bc bs Q) : SJ g y d pc L st mem bc bs Q := by
  intro l ad ex dA D A p e s m args below meth c H locs cells slots ls mc ms hI
  exact lv_aload_n hI.1.1 hI.1.2.1 hd rfl (hI.2.2.2.2.1.2.2 _ _ hl) (k hI)
theorem j_i2c {a v : Int32} (hd : decode y.2.1 pc = .ok (.i2c, 1)) (hv : (a.toUInt32 % 65536).toInt32 = v) (k : SJ g y d (pc + 1) L (.int v :: st) mem bc bs Q) : SJ g y d pc L (.int a :: st) mem bc bs Q := by
  intro l ad ex dA D A p e s m args below meth c H locs cells slots ls mc ms hI
  exact lv_i2c hI.1.1 hI.1.2.1 hd hv (k hI)
end SJC
def tcv (k : Nat) : Int32 := vp_nar .char ((x_tb.getD k 0 &&& ii 255).toUInt32 % 65536).toInt32
def tcf : Nat → Nat → Int32
  | 0 => ia (fun _ => 0)
  | k + 1 => upd (tcf k) k (tcv k)
theorem lat_loop {d : Nat} {Q : List xM → Option Value → Prop} (hQ : Q [.inl (4, 137, .inl (tcf 137))] none) : ∀ (r n : Nat), n + r = 137 → ∀ bc bs, SJ true m_Lat_inflate d 3 [some (.retAddr 5), some (.int (ii n)), some (.ref 0), some (.int (ii n)), some (.int (ii 137)), some (.int (ii n))] [] [.inl (4, 137, .inl (tcf n))] bc bs Q := by
  intro r
  induction r with
  | zero =>
    intro n hn bc bs
    obtain rfl : n = 137 := by omega
    refine j_iload d_Lat_inflate_3 rfl ?_
    refine j_iload d_Lat_inflate_5 rfl ?_
    refine z_icmp_ge (t := 33) d_Lat_inflate_7 rfl ⟨by decide, by decide⟩ ⟨by decide, by decide⟩ (fun _ => ?_) (fun h => absurd h (by omega))
    exact j_return rfl d_Lat_inflate_33 hQ
  | succ r ih =>
    intro n hn bc bs
    have hR : R32 (n : Int) := ⟨by omega, by omega⟩
    have hj : vp_in (ii (n : Int)) 137 := ii_in (by omega) (by omega) hR
    have hnn : (ii (n : Int)).toNatClampNeg = n := by rw [ii_nat hR]; rfl
    refine j_iload d_Lat_inflate_3 rfl ?_
    refine j_iload d_Lat_inflate_5 rfl ?_
    refine z_icmp_ge (t := 33) d_Lat_inflate_7 rfl hR ⟨by decide, by decide⟩ (fun h => absurd h (by omega)) (fun _ => ?_)
    refine j_aload_n d_Lat_inflate_10 rfl ?_
    refine j_iload_n d_Lat_inflate_11 rfl ?_
    refine z_iinc d_Lat_inflate_12 rfl (by decide) ?_
    show SJ _ _ _ _ [some (.retAddr 5), some (.int (ii n)), some (.ref 0), some (.int (ii (n + 1))), some (.int (ii 137)), some (.int (ii n))] _ _ _ _ _
    refine j_aload_nX d_Lat_inflate_15 rfl ?_
    refine j_iload_n d_Lat_inflate_16 rfl ?_
    refine z_iinc d_Lat_inflate_17 rfl (by decide) ?_
    show SJ _ _ _ _ [some (.retAddr 5), some (.int (ii (n + 1))), some (.ref 0), some (.int (ii (n + 1))), some (.int (ii 137)), some (.int (ii n))] _ _ _ _ _
    refine j_sbld (v := x_tb.getD n 0) d_Lat_inflate_20 hj (by rw [hnn]) ?_
    refine z_sipush d_Lat_inflate_21 (by decide) ?_
    refine j_iand d_Lat_inflate_24 ?_
    refine j_i2c d_Lat_inflate_25 rfl ?_
    refine j_cast (n := 137) (f := tcf n) d_Lat_inflate_26 rfl hj ?_
    rw [hnn]
    show SJ _ _ _ _ _ _ [.inl (4, 137, .inl (tcf (n + 1)))] _ _ _
    refine z_iinc d_Lat_inflate_27 rfl (by decide) ?_
    show SJ _ _ _ _ [some (.retAddr 5), some (.int (ii (n + 1))), some (.ref 0), some (.int (ii (n + 1))), some (.int (ii 137)), some (.int (ii (n + 1)))] _ _ _ _ _
    refine j_goto (t := 3) d_Lat_inflate_30 rfl ?_
    have h := ih (n + 1) (by omega) bc bs
    rw [show ((n + 1 : Nat) : Int) = (n : Int) + 1 from rfl] at h
    exact h
theorem n_Lat_inflate {d : Nat} {Q : List xM → Option Value → Prop} (hQ : Q [.inl (4, 137, .inl (tcf 137))] none) : CT true m_Lat_inflate (d + 1) [.retAddr 5, .int (ii 0), .ref 0, .int (ii 0), .int (ii 137)] [.inl (4, 137, .inl (tcf 0))] 0 0 Q := by
  refine CT.of (by decide) (Nat.le_of_ble_eq_true rfl) ?_
  show SJ _ _ _ _ [some (.retAddr 5), some (.int (ii 0)), some (.ref 0), some (.int (ii 0)), some (.int (ii 137)), none] [] _ _ _ _
  refine z_iconst d_Lat_inflate_0 ?_
  refine j_istore d_Lat_inflate_1 (by decide) ?_
  show SJ _ _ _ _ [some (.retAddr 5), some (.int (ii 0)), some (.ref 0), some (.int (ii 0)), some (.int (ii 137)), some (.int (ii 0))] [] _ _ _ _
  exact lat_loop hQ 137 0 rfl _ _
theorem n_Lat_toChars {d : Nat} {Q : List xM → Option Value → Prop} (hQ : Q [.inl (4, 137, .inl (tcf 137))] (some (.ref 0))) : CT true m_Lat_toChars (d + 2) [.retAddr 5] [] 1 137 Q := by
  refine CT.of (by decide) (Nat.le_of_ble_eq_true rfl) ?_
  show SJ _ _ _ _ [some (.retAddr 5), none] [] _ _ _ _
  refine j_aload_nX d_Lat_toChars_0 rfl ?_
  refine j_slen d_Lat_toChars_1 ?_
  refine j_newa (t := 4) (N := 137) (a0 := (137, .inl (ia (fun _ => 0)))) d_Lat_toChars_2 rfl (fun _ => rfl) (fun _ _ h => h) wd_a_char (fun _ _ => rfl) (by decide) (by decide) (by decide) (Nat.le_of_ble_eq_true rfl) (Nat.le_of_ble_eq_true rfl) ?_
  show SJ _ _ _ _ _ [.ref 0] [.inl (4, 137, .inl (tcf 0))] _ _ _
  refine j_astore_n d_Lat_toChars_4 (by decide) ?_
  show SJ _ _ _ _ [some (.retAddr 5), some (.ref 0)] [] _ _ _ _
  refine j_aload_nX d_Lat_toChars_5 rfl ?_
  refine z_iconst d_Lat_toChars_6 ?_
  refine j_aload_n d_Lat_toChars_7 rfl ?_
  refine z_iconst d_Lat_toChars_8 ?_
  refine j_aload_nX d_Lat_toChars_9 rfl ?_
  refine j_slen d_Lat_toChars_10 ?_
  refine j_callS (y2 := m_Lat_inflate) (as := [.retAddr 5, .int (ii 0), .ref 0, .int (ii 0), .int (ii 137)]) (st := []) (mc2 := 0) (ms2 := 0) d_Lat_toChars_11 c_Lat_13 rfl rfl (by decide) (Nat.le_of_ble_eq_true rfl) (Nat.le_of_ble_eq_true rfl) ?_
  refine n_Lat_inflate ?_
  refine j_aload_n d_Lat_toChars_14 rfl ?_
  exact j_areturn rfl (Or.inr ⟨_, rfl⟩) (Or.inr ⟨_, rfl⟩) d_Lat_toChars_15 hQ
theorem n_Str_isLatin1 {d : Nat} {Q : List xM → Option Value → Prop} (hQ : Q [] (some (.int (ii 1)))) : CT true m_Str_isLatin1 (d + 1) [.retAddr 4] [] 0 0 Q := by
  refine CT.of (by decide) (Nat.le_of_ble_eq_true rfl) ?_
  show SJ _ _ _ _ [some (.retAddr 4)] [] _ _ _ _
  refine j_sgetZ (ref := "java/lang/String") rfl d_Str_isLatin1_0 (gi1 (i := 128) (by decide +kernel) (by decide +kernel)) ?_
  show SJ _ _ _ _ _ [.int (ii 1)] _ _ _ _
  refine z_if_eq (t := 17) d_Str_isLatin1_3 rfl ⟨by decide, by decide⟩ (fun h => absurd h (by decide)) (fun _ => ?_)
  refine j_aload_nX d_Str_isLatin1_6 rfl ?_
  refine j_sgetC (ref := "java/lang/String") rfl d_Str_isLatin1_7 (gi8 (i := 159) (by decide +kernel) (by decide +kernel)) ?_
  show SJ _ _ _ _ _ [.int (ii 0)] _ _ _ _
  refine z_if_ne (t := 17) d_Str_isLatin1_10 rfl ⟨by decide, by decide⟩ (fun h => absurd rfl h) (fun _ => ?_)
  refine z_iconst d_Str_isLatin1_13 ?_
  refine j_goto (t := 18) d_Str_isLatin1_14 rfl ?_
  exact z_zreturn rfl (Or.inr rfl) d_Str_isLatin1_18 hQ
theorem n_Str_toCharArray {d : Nat} {Q : List xM → Option Value → Prop} (hQ : Q [.inl (4, 137, .inl (tcf 137))] (some (.ref 0))) : CT true m_Str_toCharArray (d + 3) [.retAddr 4] [] 1 137 Q := by
  refine CT.of (by decide) (Nat.le_of_ble_eq_true rfl) ?_
  show SJ _ _ _ _ [some (.retAddr 4)] [] _ _ _ _
  refine j_aload_nX d_Str_toCharArray_0 rfl ?_
  refine j_callO (y2 := m_Str_isLatin1) (as := []) (st := []) (mc2 := 0) (ms2 := 0) d_Str_toCharArray_1 c_Str_492 rfl rfl rfl (by decide) (Nat.le_of_ble_eq_true rfl) (Nat.le_of_ble_eq_true rfl) ?_
  refine n_Str_isLatin1 ?_
  show SJ _ _ _ _ _ [.int (ii 1)] _ _ _ _
  refine z_if_eq (t := 17) d_Str_toCharArray_4 rfl ⟨by decide, by decide⟩ (fun h => absurd h (by decide)) (fun _ => ?_)
  refine j_aload_nX d_Str_toCharArray_7 rfl ?_
  refine j_sgetV (ref := "java/lang/String") rfl d_Str_toCharArray_8 (gi8 (i := 160) (by decide +kernel) (by decide +kernel)) ?_
  refine j_callS (y2 := m_Lat_toChars) (as := [.retAddr 5]) (st := []) (mc2 := 1) (ms2 := 137) d_Str_toCharArray_11 c_Str_299 rfl rfl (by decide) (Nat.le_of_ble_eq_true rfl) (Nat.le_of_ble_eq_true rfl) ?_
  refine n_Lat_toChars ?_
  refine j_goto (t := 24) d_Str_toCharArray_14 rfl ?_
  exact j_areturn rfl (Or.inr ⟨_, rfl⟩) (Or.inr ⟨_, rfl⟩) d_Str_toCharArray_24 hQ
def pw0 : Int → Int := fun j => (tcf 137 j.toNat).toInt
theorem tcf_ia : tcf 137 = ia pw0 := funext fun j => by
  show tcf 137 j = Int32.ofInt (tcf 137 ((j : Int).toNat)).toInt
  rw [Int.toNat_natCast, Int32.ofInt_toInt]
theorem pw0_TB : ∀ j, 0 ≤ j → j < 137 → pw0 j = ofL TB j := by
  have h : ∀ j, j < 137 → (tcf 137 j).toInt = TB.getD j 0 := by decide +kernel
  intro j h0 h1
  exact h j.toNat (by omega)
theorem n_Str_toCharArray2 {d : Nat} {Q : List xM → Option Value → Prop} (hQ : Q [.inl (4, 137, .inl (ia pw0))] (some (.ref 0))) : CT true m_Str_toCharArray (d + 3) [.retAddr 4] [] 1 137 Q :=
  n_Str_toCharArray (by rw [tcf_ia]; exact hQ)
theorem n_Tap_init {d : Nat} {Q : List xM → Option Value → Prop} (hQ : Q [.inr (9, [.ref 1, .int (ii 0), .ref 2, .ref 3, .ref 4, .int (ii 0), .ref 5]), .inl (0, 400, .inl (ia (fun _ => 0))), .inl (0, 401, .inl (ia (fun _ => 0))), .inl (0, 401, .inl (ia (fun _ => 0))), .inl (0, 401, .inl (ia (fun _ => 0))), .inl (4, 137, .inl (ia pw0))] none) : CT true m_Tap_init (d + 4) [.ref 0] [.inr (9, [.null, .int (ii 0), .null, .null, .null, .int (ii 0), .null])] 5 1740 Q := by
  refine CT.of (by decide) (Nat.le_of_ble_eq_true rfl) ?_
  show SJ _ _ _ _ [some (.ref 0)] [] _ _ _ _
  refine j_aload_n d_Tap_init_0 rfl ?_
  refine j_objI d_Tap_init_1 oi_Tap_3 (Nat.le_of_ble_eq_true rfl) ?_
  refine j_aload_n d_Tap_init_4 rfl ?_
  refine z_sipush d_Tap_init_5 (by decide) ?_
  refine j_newa (t := 0) (N := 400) (a0 := (400, .inl (ia (fun _ => 0)))) d_Tap_init_8 rfl (fun _ => rfl) (fun _ _ h => h) wd_a_int (fun _ _ => rfl) (by decide) (by decide) (by decide) (Nat.le_of_ble_eq_true rfl) (Nat.le_of_ble_eq_true rfl) ?_
  show SJ _ _ _ _ _ [.ref 1, .ref 0] [.inr (9, [.null, .int (ii 0), .null, .null, .null, .int (ii 0), .null]), .inl (0, 400, .inl (ia (fun _ => 0)))] _ _ _
  refine j_putF (ci := 9) (k := 0) d_Tap_init_10 f_Tap_9 ⟨_, rfl, rfl, rfl⟩ rfl (fun q h => by cases h; rfl) rfl (Nat.le_of_ble_eq_true rfl) x_okA ?_
  show SJ _ _ _ _ _ [] [.inr (9, [.ref 1, .int (ii 0), .null, .null, .null, .int (ii 0), .null]), .inl (0, 400, .inl (ia (fun _ => 0)))] _ _ _
  refine j_aload_n d_Tap_init_13 rfl ?_
  refine z_iconst d_Tap_init_14 ?_
  refine j_putf (ci := 9) (k := 1) d_Tap_init_15 f_Tap_15 ⟨_, rfl, rfl, rfl⟩ rfl (Nat.le_of_ble_eq_true rfl) x_okI ?_
  show SJ _ _ _ _ _ [] [.inr (9, [.ref 1, .int (ii 0), .null, .null, .null, .int (ii 0), .null]), .inl (0, 400, .inl (ia (fun _ => 0)))] _ _ _
  refine j_aload_n d_Tap_init_18 rfl ?_
  refine z_sipush d_Tap_init_19 (by decide) ?_
  refine j_newa (t := 0) (N := 401) (a0 := (401, .inl (ia (fun _ => 0)))) d_Tap_init_22 rfl (fun _ => rfl) (fun _ _ h => h) wd_a_int (fun _ _ => rfl) (by decide) (by decide) (by decide) (Nat.le_of_ble_eq_true rfl) (Nat.le_of_ble_eq_true rfl) ?_
  show SJ _ _ _ _ _ [.ref 2, .ref 0] [.inr (9, [.ref 1, .int (ii 0), .null, .null, .null, .int (ii 0), .null]), .inl (0, 400, .inl (ia (fun _ => 0))), .inl (0, 401, .inl (ia (fun _ => 0)))] _ _ _
  refine j_putF (ci := 9) (k := 2) d_Tap_init_24 f_Tap_19 ⟨_, rfl, rfl, rfl⟩ rfl (fun q h => by cases h; rfl) rfl (Nat.le_of_ble_eq_true rfl) x_okA ?_
  show SJ _ _ _ _ _ [] [.inr (9, [.ref 1, .int (ii 0), .ref 2, .null, .null, .int (ii 0), .null]), .inl (0, 400, .inl (ia (fun _ => 0))), .inl (0, 401, .inl (ia (fun _ => 0)))] _ _ _
  refine j_aload_n d_Tap_init_27 rfl ?_
  refine z_sipush d_Tap_init_28 (by decide) ?_
  refine j_newa (t := 0) (N := 401) (a0 := (401, .inl (ia (fun _ => 0)))) d_Tap_init_31 rfl (fun _ => rfl) (fun _ _ h => h) wd_a_int (fun _ _ => rfl) (by decide) (by decide) (by decide) (Nat.le_of_ble_eq_true rfl) (Nat.le_of_ble_eq_true rfl) ?_
  show SJ _ _ _ _ _ [.ref 3, .ref 0] [.inr (9, [.ref 1, .int (ii 0), .ref 2, .null, .null, .int (ii 0), .null]), .inl (0, 400, .inl (ia (fun _ => 0))), .inl (0, 401, .inl (ia (fun _ => 0))), .inl (0, 401, .inl (ia (fun _ => 0)))] _ _ _
  refine j_putF (ci := 9) (k := 3) d_Tap_init_33 f_Tap_22 ⟨_, rfl, rfl, rfl⟩ rfl (fun q h => by cases h; rfl) rfl (Nat.le_of_ble_eq_true rfl) x_okA ?_
  show SJ _ _ _ _ _ [] [.inr (9, [.ref 1, .int (ii 0), .ref 2, .ref 3, .null, .int (ii 0), .null]), .inl (0, 400, .inl (ia (fun _ => 0))), .inl (0, 401, .inl (ia (fun _ => 0))), .inl (0, 401, .inl (ia (fun _ => 0)))] _ _ _
  refine j_aload_n d_Tap_init_36 rfl ?_
  refine z_sipush d_Tap_init_37 (by decide) ?_
  refine j_newa (t := 0) (N := 401) (a0 := (401, .inl (ia (fun _ => 0)))) d_Tap_init_40 rfl (fun _ => rfl) (fun _ _ h => h) wd_a_int (fun _ _ => rfl) (by decide) (by decide) (by decide) (Nat.le_of_ble_eq_true rfl) (Nat.le_of_ble_eq_true rfl) ?_
  show SJ _ _ _ _ _ [.ref 4, .ref 0] [.inr (9, [.ref 1, .int (ii 0), .ref 2, .ref 3, .null, .int (ii 0), .null]), .inl (0, 400, .inl (ia (fun _ => 0))), .inl (0, 401, .inl (ia (fun _ => 0))), .inl (0, 401, .inl (ia (fun _ => 0))), .inl (0, 401, .inl (ia (fun _ => 0)))] _ _ _
  refine j_putF (ci := 9) (k := 4) d_Tap_init_42 f_Tap_25 ⟨_, rfl, rfl, rfl⟩ rfl (fun q h => by cases h; rfl) rfl (Nat.le_of_ble_eq_true rfl) x_okA ?_
  show SJ _ _ _ _ _ [] [.inr (9, [.ref 1, .int (ii 0), .ref 2, .ref 3, .ref 4, .int (ii 0), .null]), .inl (0, 400, .inl (ia (fun _ => 0))), .inl (0, 401, .inl (ia (fun _ => 0))), .inl (0, 401, .inl (ia (fun _ => 0))), .inl (0, 401, .inl (ia (fun _ => 0)))] _ _ _
  refine j_aload_n d_Tap_init_45 rfl ?_
  refine z_iconst d_Tap_init_46 ?_
  refine j_putf (ci := 9) (k := 5) d_Tap_init_47 f_Tap_28 ⟨_, rfl, rfl, rfl⟩ rfl (Nat.le_of_ble_eq_true rfl) x_okI ?_
  show SJ _ _ _ _ _ [] [.inr (9, [.ref 1, .int (ii 0), .ref 2, .ref 3, .ref 4, .int (ii 0), .null]), .inl (0, 400, .inl (ia (fun _ => 0))), .inl (0, 401, .inl (ia (fun _ => 0))), .inl (0, 401, .inl (ia (fun _ => 0))), .inl (0, 401, .inl (ia (fun _ => 0)))] _ _ _
  refine j_aload_n d_Tap_init_50 rfl ?_
  refine j_ldcS rfl d_Tap_init_51 ?_
  refine j_callO (y2 := m_Str_toCharArray) (as := []) (mc2 := 1) (ms2 := 137) d_Tap_init_53 c_Tap_33 rfl rfl rfl (Nat.le_of_ble_eq_true rfl) (Nat.le_of_ble_eq_true rfl) (Nat.le_of_ble_eq_true rfl) ?_
  refine CT.subG (sub := []) (args := [.retAddr 4]) (sgl [] 5) (sgl_inj2 (by decide) (by decide)) (fun k => sgl_up rfl rfl k) (fun i q h => by cases h) rfl ?_
  refine n_Str_toCharArray2 ⟨(Nat.le_of_ble_eq_true rfl), ?_⟩
  show SJ _ _ _ _ _ [.ref 5, .ref 0] [.inr (9, [.ref 1, .int (ii 0), .ref 2, .ref 3, .ref 4, .int (ii 0), .null]), .inl (0, 400, .inl (ia (fun _ => 0))), .inl (0, 401, .inl (ia (fun _ => 0))), .inl (0, 401, .inl (ia (fun _ => 0))), .inl (0, 401, .inl (ia (fun _ => 0))), .inl (4, 137, .inl (ia pw0))] _ _ _
  refine j_putF (ci := 9) (k := 6) d_Tap_init_56 f_Tap_39 ⟨_, rfl, rfl, rfl⟩ rfl (fun q h => by cases h; rfl) rfl (Nat.le_of_ble_eq_true rfl) x_okA ?_
  show SJ _ _ _ _ _ [] [.inr (9, [.ref 1, .int (ii 0), .ref 2, .ref 3, .ref 4, .int (ii 0), .ref 5]), .inl (0, 400, .inl (ia (fun _ => 0))), .inl (0, 401, .inl (ia (fun _ => 0))), .inl (0, 401, .inl (ia (fun _ => 0))), .inl (0, 401, .inl (ia (fun _ => 0))), .inl (4, 137, .inl (ia pw0))] _ _ _
  exact j_return rfl d_Tap_init_59 hQ
