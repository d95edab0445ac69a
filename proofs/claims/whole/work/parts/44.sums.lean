def W_SM (br : Int) (tc : Int) (sz : Int) (sk : Int → Int) (st : Int → Int) (vl : Int → Int) (wd : Int → Int) (SL : Nat) : List xM := [.inr (8, [.int (ii br), .ref 1]), .inl (0, 51, .inl (ia (sk))), .inr (10, [.ref 6, .ref 7, .ref 8, .ref 9, .ref 10, .ref 3, .ref 4, .int (ii tc), .int (ii sz)]), .inl (0, SL, .inl (ia (st))), .inl (0, SL, .inl (ia (vl))), .inl (0, 52, .inl (ia (wd)))]
section WR_SM
variable {g : Bool} {y : xY} {d pc : Nat} {L : List (Option Value)} {zst : List Value} {bc bs : Nat} {Q : List xM → Option Value → Prop} {br tc sz : Int} {sk st vl wd : Int → Int} {SL : Nat} 
theorem gf_SM_0_0 {idx : Nat} (hf : x_fs y.1.cls idx 8 0) (hd : decode y.2.1 pc = .ok (.getfield idx, 3)) (kk : SJ g y d (pc + 3) L (.int (ii br) :: zst) (W_SM br tc sz sk st vl wd SL) bc bs Q) : SJ g y d pc L (.ref 0 :: zst) (W_SM br tc sz sk st vl wd SL) bc bs Q := j_getf hd hf rfl rfl kk
theorem pf_SM_0_0 {idx : Nat} {v : Int} (hf : x_fs y.1.cls idx 8 0) (hd : decode y.2.1 pc = .ok (.putfield idx, 3)) (hv : v = 0 ∨ v = 1) (kk : SJ g y d (pc + 3) L zst (W_SM v tc sz sk st vl wd SL) bc bs Q) : SJ g y d pc L (.int (ii v) :: .ref 0 :: zst) (W_SM br tc sz sk st vl wd SL) bc bs Q := j_putf (ci := 8) (k := 0) hd hf ⟨_, rfl, rfl, rfl⟩ rfl (Nat.le_of_ble_eq_true rfl) (by rcases hv with rfl | rfl; exact x_ok0; exact x_ok1) kk
theorem gf_SM_0_1 {idx : Nat} (hf : x_fs y.1.cls idx 8 1) (hd : decode y.2.1 pc = .ok (.getfield idx, 3)) (kk : SJ g y d (pc + 3) L (.ref 1 :: zst) (W_SM br tc sz sk st vl wd SL) bc bs Q) : SJ g y d pc L (.ref 0 :: zst) (W_SM br tc sz sk st vl wd SL) bc bs Q := j_getf hd hf rfl rfl kk
theorem al_SM_1 {a : Int} (hd : decode y.2.1 pc = .ok (.iaload, 1)) (h0 : 0 ≤ a) (h1 : a < 51) (kk : SJ g y d (pc + 1) L (.int (ii (sk a)) :: zst) (W_SM br tc sz sk st vl wd SL) bc bs Q) : SJ g y d pc L (.int (ii a) :: .ref 1 :: zst) (W_SM br tc sz sk st vl wd SL) bc bs Q := z_iald hd rfl h0 h1 ⟨by omega, by omega⟩ kk
theorem as_SM_1 {a v : Int} (hd : decode y.2.1 pc = .ok (.iastore, 1)) (h0 : 0 ≤ a) (h1 : a < 51) (kk : SJ g y d (pc + 1) L zst (W_SM br tc sz (up sk a v) st vl wd SL) bc bs Q) : SJ g y d pc L (.int (ii v) :: .int (ii a) :: .ref 1 :: zst) (W_SM br tc sz sk st vl wd SL) bc bs Q := z_iast hd rfl h0 h1 ⟨by omega, by omega⟩ kk
theorem gf_SM_2_0 {idx : Nat} (hf : x_fs y.1.cls idx 10 0) (hd : decode y.2.1 pc = .ok (.getfield idx, 3)) (kk : SJ g y d (pc + 3) L (.ref 6 :: zst) (W_SM br tc sz sk st vl wd SL) bc bs Q) : SJ g y d pc L (.ref 2 :: zst) (W_SM br tc sz sk st vl wd SL) bc bs Q := j_getf hd hf rfl rfl kk
theorem gf_SM_2_1 {idx : Nat} (hf : x_fs y.1.cls idx 10 1) (hd : decode y.2.1 pc = .ok (.getfield idx, 3)) (kk : SJ g y d (pc + 3) L (.ref 7 :: zst) (W_SM br tc sz sk st vl wd SL) bc bs Q) : SJ g y d pc L (.ref 2 :: zst) (W_SM br tc sz sk st vl wd SL) bc bs Q := j_getf hd hf rfl rfl kk
theorem gf_SM_2_2 {idx : Nat} (hf : x_fs y.1.cls idx 10 2) (hd : decode y.2.1 pc = .ok (.getfield idx, 3)) (kk : SJ g y d (pc + 3) L (.ref 8 :: zst) (W_SM br tc sz sk st vl wd SL) bc bs Q) : SJ g y d pc L (.ref 2 :: zst) (W_SM br tc sz sk st vl wd SL) bc bs Q := j_getf hd hf rfl rfl kk
theorem gf_SM_2_3 {idx : Nat} (hf : x_fs y.1.cls idx 10 3) (hd : decode y.2.1 pc = .ok (.getfield idx, 3)) (kk : SJ g y d (pc + 3) L (.ref 9 :: zst) (W_SM br tc sz sk st vl wd SL) bc bs Q) : SJ g y d pc L (.ref 2 :: zst) (W_SM br tc sz sk st vl wd SL) bc bs Q := j_getf hd hf rfl rfl kk
theorem gf_SM_2_4 {idx : Nat} (hf : x_fs y.1.cls idx 10 4) (hd : decode y.2.1 pc = .ok (.getfield idx, 3)) (kk : SJ g y d (pc + 3) L (.ref 10 :: zst) (W_SM br tc sz sk st vl wd SL) bc bs Q) : SJ g y d pc L (.ref 2 :: zst) (W_SM br tc sz sk st vl wd SL) bc bs Q := j_getf hd hf rfl rfl kk
theorem gf_SM_2_5 {idx : Nat} (hf : x_fs y.1.cls idx 10 5) (hd : decode y.2.1 pc = .ok (.getfield idx, 3)) (kk : SJ g y d (pc + 3) L (.ref 3 :: zst) (W_SM br tc sz sk st vl wd SL) bc bs Q) : SJ g y d pc L (.ref 2 :: zst) (W_SM br tc sz sk st vl wd SL) bc bs Q := j_getf hd hf rfl rfl kk
theorem gf_SM_2_6 {idx : Nat} (hf : x_fs y.1.cls idx 10 6) (hd : decode y.2.1 pc = .ok (.getfield idx, 3)) (kk : SJ g y d (pc + 3) L (.ref 4 :: zst) (W_SM br tc sz sk st vl wd SL) bc bs Q) : SJ g y d pc L (.ref 2 :: zst) (W_SM br tc sz sk st vl wd SL) bc bs Q := j_getf hd hf rfl rfl kk
theorem gf_SM_2_7 {idx : Nat} (hf : x_fs y.1.cls idx 10 7) (hd : decode y.2.1 pc = .ok (.getfield idx, 3)) (kk : SJ g y d (pc + 3) L (.int (ii tc) :: zst) (W_SM br tc sz sk st vl wd SL) bc bs Q) : SJ g y d pc L (.ref 2 :: zst) (W_SM br tc sz sk st vl wd SL) bc bs Q := j_getf hd hf rfl rfl kk
theorem pf_SM_2_7 {idx : Nat} {v : Int} (hf : x_fs y.1.cls idx 10 7) (hd : decode y.2.1 pc = .ok (.putfield idx, 3)) (kk : SJ g y d (pc + 3) L zst (W_SM br v sz sk st vl wd SL) bc bs Q) : SJ g y d pc L (.int (ii v) :: .ref 2 :: zst) (W_SM br tc sz sk st vl wd SL) bc bs Q := j_putf (ci := 10) (k := 7) hd hf ⟨_, rfl, rfl, rfl⟩ rfl (Nat.le_of_ble_eq_true rfl) x_okI kk
theorem gf_SM_2_8 {idx : Nat} (hf : x_fs y.1.cls idx 10 8) (hd : decode y.2.1 pc = .ok (.getfield idx, 3)) (kk : SJ g y d (pc + 3) L (.int (ii sz) :: zst) (W_SM br tc sz sk st vl wd SL) bc bs Q) : SJ g y d pc L (.ref 2 :: zst) (W_SM br tc sz sk st vl wd SL) bc bs Q := j_getf hd hf rfl rfl kk
theorem pf_SM_2_8 {idx : Nat} {v : Int} (hf : x_fs y.1.cls idx 10 8) (hd : decode y.2.1 pc = .ok (.putfield idx, 3)) (kk : SJ g y d (pc + 3) L zst (W_SM br tc v sk st vl wd SL) bc bs Q) : SJ g y d pc L (.int (ii v) :: .ref 2 :: zst) (W_SM br tc sz sk st vl wd SL) bc bs Q := j_putf (ci := 10) (k := 8) hd hf ⟨_, rfl, rfl, rfl⟩ rfl (Nat.le_of_ble_eq_true rfl) x_okI kk
theorem al_SM_3 {a : Int} (hd : decode y.2.1 pc = .ok (.iaload, 1)) (h0 : 0 ≤ a) (h1 : a < ((SL : Nat) : Int)) (ha : R32 a) (kk : SJ g y d (pc + 1) L (.int (ii (st a)) :: zst) (W_SM br tc sz sk st vl wd SL) bc bs Q) : SJ g y d pc L (.int (ii a) :: .ref 3 :: zst) (W_SM br tc sz sk st vl wd SL) bc bs Q := z_iald hd rfl h0 h1 ha kk
theorem as_SM_3 {a v : Int} (hd : decode y.2.1 pc = .ok (.iastore, 1)) (h0 : 0 ≤ a) (h1 : a < ((SL : Nat) : Int)) (ha : R32 a) (kk : SJ g y d (pc + 1) L zst (W_SM br tc sz sk (up st a v) vl wd SL) bc bs Q) : SJ g y d pc L (.int (ii v) :: .int (ii a) :: .ref 3 :: zst) (W_SM br tc sz sk st vl wd SL) bc bs Q := z_iast hd rfl h0 h1 ha kk
theorem al_SM_4 {a : Int} (hd : decode y.2.1 pc = .ok (.iaload, 1)) (h0 : 0 ≤ a) (h1 : a < ((SL : Nat) : Int)) (ha : R32 a) (kk : SJ g y d (pc + 1) L (.int (ii (vl a)) :: zst) (W_SM br tc sz sk st vl wd SL) bc bs Q) : SJ g y d pc L (.int (ii a) :: .ref 4 :: zst) (W_SM br tc sz sk st vl wd SL) bc bs Q := z_iald hd rfl h0 h1 ha kk
theorem as_SM_4 {a v : Int} (hd : decode y.2.1 pc = .ok (.iastore, 1)) (h0 : 0 ≤ a) (h1 : a < ((SL : Nat) : Int)) (ha : R32 a) (kk : SJ g y d (pc + 1) L zst (W_SM br tc sz sk st (up vl a v) wd SL) bc bs Q) : SJ g y d pc L (.int (ii v) :: .int (ii a) :: .ref 4 :: zst) (W_SM br tc sz sk st vl wd SL) bc bs Q := z_iast hd rfl h0 h1 ha kk
theorem al_SM_5 {a : Int} (hd : decode y.2.1 pc = .ok (.iaload, 1)) (h0 : 0 ≤ a) (h1 : a < 52) (kk : SJ g y d (pc + 1) L (.int (ii (wd a)) :: zst) (W_SM br tc sz sk st vl wd SL) bc bs Q) : SJ g y d pc L (.int (ii a) :: .ref 5 :: zst) (W_SM br tc sz sk st vl wd SL) bc bs Q := z_iald hd rfl h0 h1 ⟨by omega, by omega⟩ kk
theorem as_SM_5 {a v : Int} (hd : decode y.2.1 pc = .ok (.iastore, 1)) (h0 : 0 ≤ a) (h1 : a < 52) (kk : SJ g y d (pc + 1) L zst (W_SM br tc sz sk st vl (up wd a v) SL) bc bs Q) : SJ g y d pc L (.int (ii v) :: .int (ii a) :: .ref 5 :: zst) (W_SM br tc sz sk st vl wd SL) bc bs Q := z_iast hd rfl h0 h1 ⟨by omega, by omega⟩ kk
end WR_SM
theorem t_Sum_taken {g : Bool} {d : Nat} {Q : List xM → Option Value → Prop} {mem : List xM} {s : Int} (r1 : R32 s) (hQ : Q mem (some (.int (ii (tkn s))))) : CT g m_Sum_taken d [.int (ii s)] mem 0 0 Q := by
  refine CT.of (by decide) (Nat.le_of_ble_eq_true rfl) ?_
  show SJ _ _ _ _ [some (.int (ii s))] [] _ _ _ _
  refine j_iload_n d_Sum_taken_0 rfl ?_
  refine z_case (33) (fun h1_0 => ?_) (fun h1_0 => ?_)
  · refine z_lookIn (t := 62) (o := 61) d_Sum_taken_1 (by first | omega | exact hw _ | exact hx _ _ | assumption) h1_0 (by decide) (by decide) (by decide) ?_
    refine z_iconst d_Sum_taken_62 ?_
    exact z_iret rfl d_Sum_taken_63 (by unfold tkn; first | rw [if_pos (by omega)] | rw [if_neg (by omega), if_pos (by omega)] | rw [if_neg (by omega), if_neg (by omega)]) hQ
  refine z_case (38) (fun h1_1 => ?_) (fun h1_1 => ?_)
  · refine z_lookIn (t := 62) (o := 61) d_Sum_taken_1 (by first | omega | exact hw _ | exact hx _ _ | assumption) h1_1 (by decide) (by decide) (by decide) ?_
    refine z_iconst d_Sum_taken_62 ?_
    exact z_iret rfl d_Sum_taken_63 (by unfold tkn; first | rw [if_pos (by omega)] | rw [if_neg (by omega), if_pos (by omega)] | rw [if_neg (by omega), if_neg (by omega)]) hQ
  refine z_case (46) (fun h1_2 => ?_) (fun h1_2 => ?_)
  · refine z_lookIn (t := 62) (o := 61) d_Sum_taken_1 (by first | omega | exact hw _ | exact hx _ _ | assumption) h1_2 (by decide) (by decide) (by decide) ?_
    refine z_iconst d_Sum_taken_62 ?_
    exact z_iret rfl d_Sum_taken_63 (by unfold tkn; first | rw [if_pos (by omega)] | rw [if_neg (by omega), if_pos (by omega)] | rw [if_neg (by omega), if_neg (by omega)]) hQ
  refine z_case (110) (fun h1_3 => ?_) (fun h1_3 => ?_)
  · refine z_lookIn (t := 60) (o := 59) d_Sum_taken_1 (by first | omega | exact hw _ | exact hx _ _ | assumption) h1_3 (by decide) (by decide) (by decide) ?_
    refine z_iconst d_Sum_taken_60 ?_
    exact z_iret rfl d_Sum_taken_61 (by unfold tkn; first | rw [if_pos (by omega)] | rw [if_neg (by omega), if_pos (by omega)] | rw [if_neg (by omega), if_neg (by omega)]) hQ
  refine z_case (119) (fun h1_4 => ?_) (fun h1_4 => ?_)
  · refine z_lookIn (t := 60) (o := 59) d_Sum_taken_1 (by first | omega | exact hw _ | exact hx _ _ | assumption) h1_4 (by decide) (by decide) (by decide) ?_
    refine z_iconst d_Sum_taken_60 ?_
    exact z_iret rfl d_Sum_taken_61 (by unfold tkn; first | rw [if_pos (by omega)] | rw [if_neg (by omega), if_pos (by omega)] | rw [if_neg (by omega), if_neg (by omega)]) hQ
  refine z_case (124) (fun h1_5 => ?_) (fun h1_5 => ?_)
  · refine z_lookIn (t := 62) (o := 61) d_Sum_taken_1 (by first | omega | exact hw _ | exact hx _ _ | assumption) h1_5 (by decide) (by decide) (by decide) ?_
    refine z_iconst d_Sum_taken_62 ?_
    exact z_iret rfl d_Sum_taken_63 (by unfold tkn; first | rw [if_pos (by omega)] | rw [if_neg (by omega), if_pos (by omega)] | rw [if_neg (by omega), if_neg (by omega)]) hQ
  refine z_lookOut (t := 64) d_Sum_taken_1 (by first | omega | exact hw _ | exact hx _ _ | assumption) (by simp [Op.lookupswitch.offset_cons, Op.lookupswitch.offset_nil]; omega) (by decide) (by decide) ?_
  refine z_iconst d_Sum_taken_64 ?_
  exact z_iret rfl d_Sum_taken_65 (by unfold tkn; first | rw [if_pos (by omega)] | rw [if_neg (by omega), if_pos (by omega)] | rw [if_neg (by omega), if_neg (by omega)]) hQ
theorem t_Sum_combined {g : Bool} {d : Nat} {Q : List xM → Option Value → Prop} {mem : List xM} {s a b : Int} (r0 : R32 s) (r1 : rgo a) (r2 : rgo b) (hQ : Q mem (some (.long (ll (cmbJ s a b))))) : CT g m_Sum_combined d [.int (ii s), .long (ll a), .long (ll b)] mem 0 0 Q := by
  refine CT.of (by decide) (Nat.le_of_ble_eq_true rfl) ?_
  show SJ _ _ _ _ [some (.int (ii s)), some (.long (ll a)), none, some (.long (ll b)), none] [] _ _ _ _
  refine j_iload_n d_Sum_combined_0 rfl ?_
  refine z_case (37) (fun h1_0 => ?_) (fun h1_0 => ?_)
  · refine z_lookIn (t := 96) (o := 95) d_Sum_combined_1 (by first | omega | exact hw _ | exact hx _ _ | assumption) h1_0 (by decide) (by decide) (by decide) ?_
    refine j_lload_n d_Sum_combined_96 rfl ?_
    refine z_lconst (v := 0) d_Sum_combined_97 (by decide) ?_
    refine z_lcmp_ne (t := 108) d_Sum_combined_98 d_Sum_combined_99 (by decide) (by first | omega | exact hw _ | exact hx _ _ | assumption) (by first | omega | exact hw _ | exact hx _ _ | assumption) (fun h98 => ?_) (fun h98 => ?_)
    · refine j_lload_n d_Sum_combined_108 rfl ?_
      refine j_lload_n d_Sum_combined_109 rfl ?_
      refine z_lrem d_Sum_combined_110 (by omega) (by omega) (by first | omega | (intro e; omega)) ?_
      refine z_lret rfl d_Sum_combined_111 (v := cmbJ s a b) ?_ hQ
      unfold cmbJ
      rw [if_neg (by omega), if_neg (by omega), if_neg (by omega), if_neg (by omega), if_pos (by omega)]
      try (first | rw [if_pos (by omega)] | rw [if_neg (by omega)])
    · refine z_ldc2 (w := 1000000001) d_Sum_combined_102 k_Sum_43 (by decide) ?_
      refine j_goto (t := 111) d_Sum_combined_105 (by decide) ?_
      refine z_lret rfl d_Sum_combined_111 (v := cmbJ s a b) ?_ hQ
      unfold cmbJ
      rw [if_neg (by omega), if_neg (by omega), if_neg (by omega), if_neg (by omega), if_pos (by omega)]
      try (first | rw [if_pos (by omega)] | rw [if_neg (by omega)])
  refine z_case (42) (fun h1_1 => ?_) (fun h1_1 => ?_)
  · refine z_lookIn (t := 76) (o := 75) d_Sum_combined_1 (by first | omega | exact hw _ | exact hx _ _ | assumption) h1_1 (by decide) (by decide) (by decide) ?_
    refine j_lload_n d_Sum_combined_76 rfl ?_
    refine j_lload_n d_Sum_combined_77 rfl ?_
    refine z_lmul d_Sum_combined_78 ?_
    refine z_lret rfl d_Sum_combined_79 (v := cmbJ s a b) ?_ hQ
    unfold cmbJ
    rw [if_neg (by omega), if_neg (by omega), if_pos (by omega)]
    try (first | rw [if_pos (by omega)] | rw [if_neg (by omega)])
  refine z_case (43) (fun h1_2 => ?_) (fun h1_2 => ?_)
  · refine z_lookIn (t := 68) (o := 67) d_Sum_combined_1 (by first | omega | exact hw _ | exact hx _ _ | assumption) h1_2 (by decide) (by decide) (by decide) ?_
    refine j_lload_n d_Sum_combined_68 rfl ?_
    refine j_lload_n d_Sum_combined_69 rfl ?_
    refine z_ladd d_Sum_combined_70 ?_
    refine z_lret rfl d_Sum_combined_71 (v := cmbJ s a b) ?_ hQ
    unfold cmbJ
    rw [if_pos (by omega)]
    try (first | rw [if_pos (by omega)] | rw [if_neg (by omega)])
  refine z_case (45) (fun h1_3 => ?_) (fun h1_3 => ?_)
  · refine z_lookIn (t := 72) (o := 71) d_Sum_combined_1 (by first | omega | exact hw _ | exact hx _ _ | assumption) h1_3 (by decide) (by decide) (by decide) ?_
    refine j_lload_n d_Sum_combined_72 rfl ?_
    refine j_lload_n d_Sum_combined_73 rfl ?_
    refine z_lsub d_Sum_combined_74 ?_
    refine z_lret rfl d_Sum_combined_75 (v := cmbJ s a b) ?_ hQ
    unfold cmbJ
    rw [if_neg (by omega), if_pos (by omega)]
    try (first | rw [if_pos (by omega)] | rw [if_neg (by omega)])
  refine z_case (47) (fun h1_4 => ?_) (fun h1_4 => ?_)
  · refine z_lookIn (t := 80) (o := 79) d_Sum_combined_1 (by first | omega | exact hw _ | exact hx _ _ | assumption) h1_4 (by decide) (by decide) (by decide) ?_
    refine j_lload_n d_Sum_combined_80 rfl ?_
    refine z_lconst (v := 0) d_Sum_combined_81 (by decide) ?_
    refine z_lcmp_ne (t := 92) d_Sum_combined_82 d_Sum_combined_83 (by decide) (by first | omega | exact hw _ | exact hx _ _ | assumption) (by first | omega | exact hw _ | exact hx _ _ | assumption) (fun h82 => ?_) (fun h82 => ?_)
    · refine j_lload_n d_Sum_combined_92 rfl ?_
      refine j_lload_n d_Sum_combined_93 rfl ?_
      refine z_ldiv d_Sum_combined_94 (by omega) (by omega) (by first | omega | (intro e; omega)) ?_
      refine z_lret rfl d_Sum_combined_95 (v := cmbJ s a b) ?_ hQ
      unfold cmbJ
      rw [if_neg (by omega), if_neg (by omega), if_neg (by omega), if_pos (by omega)]
      try (first | rw [if_pos (by omega)] | rw [if_neg (by omega)])
    · refine z_ldc2 (w := 1000000001) d_Sum_combined_86 k_Sum_43 (by decide) ?_
      refine j_goto (t := 95) d_Sum_combined_89 (by decide) ?_
      refine z_lret rfl d_Sum_combined_95 (v := cmbJ s a b) ?_ hQ
      unfold cmbJ
      rw [if_neg (by omega), if_neg (by omega), if_neg (by omega), if_pos (by omega)]
      try (first | rw [if_pos (by omega)] | rw [if_neg (by omega)])
  refine z_case (60) (fun h1_5 => ?_) (fun h1_5 => ?_)
  · refine z_lookIn (t := 112) (o := 111) d_Sum_combined_1 (by first | omega | exact hw _ | exact hx _ _ | assumption) h1_5 (by decide) (by decide) (by decide) ?_
    refine j_lload_n d_Sum_combined_112 rfl ?_
    refine j_lload_n d_Sum_combined_113 rfl ?_
    refine z_lcmp_ge (t := 122) d_Sum_combined_114 d_Sum_combined_115 (by decide) (by first | omega | exact hw _ | exact hx _ _ | assumption) (by first | omega | exact hw _ | exact hx _ _ | assumption) (fun h114 => ?_) (fun h114 => ?_)
    · refine z_lconst (v := 0) d_Sum_combined_122 (by decide) ?_
      refine z_lret rfl d_Sum_combined_123 (v := cmbJ s a b) ?_ hQ
      unfold cmbJ
      rw [if_neg (by omega), if_neg (by omega), if_neg (by omega), if_neg (by omega), if_neg (by omega), if_pos (by omega)]
      try (first | rw [if_pos (by omega)] | rw [if_neg (by omega)])
    · refine z_lconst (v := 1) d_Sum_combined_118 (by decide) ?_
      refine j_goto (t := 123) d_Sum_combined_119 (by decide) ?_
      refine z_lret rfl d_Sum_combined_123 (v := cmbJ s a b) ?_ hQ
      unfold cmbJ
      rw [if_neg (by omega), if_neg (by omega), if_neg (by omega), if_neg (by omega), if_neg (by omega), if_pos (by omega)]
      try (first | rw [if_pos (by omega)] | rw [if_neg (by omega)])
  refine z_case (62) (fun h1_6 => ?_) (fun h1_6 => ?_)
  · refine z_lookIn (t := 124) (o := 123) d_Sum_combined_1 (by first | omega | exact hw _ | exact hx _ _ | assumption) h1_6 (by decide) (by decide) (by decide) ?_
    refine j_lload_n d_Sum_combined_124 rfl ?_
    refine j_lload_n d_Sum_combined_125 rfl ?_
    refine z_lcmp_le (t := 134) d_Sum_combined_126 d_Sum_combined_127 (by decide) (by first | omega | exact hw _ | exact hx _ _ | assumption) (by first | omega | exact hw _ | exact hx _ _ | assumption) (fun h126 => ?_) (fun h126 => ?_)
    · refine z_lconst (v := 0) d_Sum_combined_134 (by decide) ?_
      refine z_lret rfl d_Sum_combined_135 (v := cmbJ s a b) ?_ hQ
      unfold cmbJ
      rw [if_neg (by omega), if_neg (by omega), if_neg (by omega), if_neg (by omega), if_neg (by omega), if_neg (by omega), if_pos (by omega)]
      try (first | rw [if_pos (by omega)] | rw [if_neg (by omega)])
    · refine z_lconst (v := 1) d_Sum_combined_130 (by decide) ?_
      refine j_goto (t := 135) d_Sum_combined_131 (by decide) ?_
      refine z_lret rfl d_Sum_combined_135 (v := cmbJ s a b) ?_ hQ
      unfold cmbJ
      rw [if_neg (by omega), if_neg (by omega), if_neg (by omega), if_neg (by omega), if_neg (by omega), if_neg (by omega), if_pos (by omega)]
      try (first | rw [if_pos (by omega)] | rw [if_neg (by omega)])
  refine z_lookOut (t := 136) d_Sum_combined_1 (by first | omega | exact hw _ | exact hx _ _ | assumption) (by simp [Op.lookupswitch.offset_cons, Op.lookupswitch.offset_nil]; omega) (by decide) (by decide) ?_
  refine j_lload_n d_Sum_combined_136 rfl ?_
  refine j_lload_n d_Sum_combined_137 rfl ?_
  refine z_lcmp_ne (t := 146) d_Sum_combined_138 d_Sum_combined_139 (by decide) (by first | omega | exact hw _ | exact hx _ _ | assumption) (by first | omega | exact hw _ | exact hx _ _ | assumption) (fun h138 => ?_) (fun h138 => ?_)
  · refine z_lconst (v := 0) d_Sum_combined_146 (by decide) ?_
    refine z_lret rfl d_Sum_combined_147 (v := cmbJ s a b) ?_ hQ
    unfold cmbJ
    rw [if_neg (by omega), if_neg (by omega), if_neg (by omega), if_neg (by omega), if_neg (by omega), if_neg (by omega), if_neg (by omega)]
    try (first | rw [if_pos (by omega)] | rw [if_neg (by omega)])
  · refine z_lconst (v := 1) d_Sum_combined_142 (by decide) ?_
    refine j_goto (t := 147) d_Sum_combined_143 (by decide) ?_
    refine z_lret rfl d_Sum_combined_147 (v := cmbJ s a b) ?_ hQ
    unfold cmbJ
    rw [if_neg (by omega), if_neg (by omega), if_neg (by omega), if_neg (by omega), if_neg (by omega), if_neg (by omega), if_neg (by omega)]
    try (first | rw [if_pos (by omega)] | rw [if_neg (by omega)])
theorem lp_of {g : Bool} {d : Nat} {Q : List xM → Option Value → Prop} {tc sz : Int} {st vl wd : Int → Int} {SL : Nat} (z0_ : 0 ≤ sz) (z1_ : sz ≤ (SL : Int)) (z2_ : SL ≤ 1000) (hst : ∀ j, 0 ≤ j → j < sz → 0 ≤ st j ∧ st j ≤ 400) {start v b : Int} (hQ : ∀ skz, Q (W_SM b tc sz skz st vl wd SL) (some (.int (ii v)))) : ∀ (nn : Nat) (q : Int) (top : Int) (sp : Int) (sk : Int → Int), (sz - q).toNat = nn → 0 ≤ q → q ≤ sz → 0 ≤ top → top ≤ 51 → R32 sp → mach st vl wd (sz - q).toNat q top sk sp = some (v, b) → SJ g m_Sum_of (d + 1) 14 [some (.ref 0), some (.ref 2), some (.int (ii start)), some (.ref 5), some (.int (ii top)), some (.int (ii sp)), some (.int (ii q)), none, none, none, none] [] (W_SM 0 tc sz sk st vl wd SL) 0 0 Q := by
  intro nn
  induction nn using Nat.strongRecOn with
  | ind nn ih =>
  intro q top sp sk hn q0 q1 t0 t1 rs hR
  refine j_iload d_Sum_of_14 rfl ?_
  refine j_aload_n d_Sum_of_16 rfl ?_
  refine gf_SM_2_8 f_Sum_19 d_Sum_of_17 ?_
  refine z_icmp_ge (t := 309) d_Sum_of_20 (by decide) (by first | omega | exact hw _ | exact hx _ _ | assumption) (by first | omega | exact hw _ | exact hx _ _ | assumption) (fun h20 => ?_) (fun h20 => ?_)
  · have hR2 : (0, 1) = (v, b) := by
      first
      | (rw [show (sz - q).toNat = 0 by omega] at hR
         simp only [mach] at hR
         exact Option.some.inj hR)
      | (rw [if_pos (by omega)] at hR
         exact Option.some.inj hR)
    obtain ⟨rfl, rfl⟩ := Prod.mk.inj hR2
    refine j_aload_n d_Sum_of_309 rfl ?_
    refine z_iconst d_Sum_of_310 ?_
    refine pf_SM_0_0 f_Sum_9 d_Sum_of_311 (by first | exact Or.inl rfl | exact Or.inr rfl | assumption | omega) ?_
    refine z_iconst d_Sum_of_314 ?_
    exact z_iret rfl d_Sum_of_315 rfl (hQ _)
  · have hsq := hst q q0 (by omega)
    have htk := tkn_R (st q)
    rw [show (sz - q).toNat = (sz - (q + 1)).toNat + 1 by omega] at hR
    simp only [mach] at hR
    refine j_aload_n d_Sum_of_23 rfl ?_
    refine gf_SM_2_5 f_Sum_25 d_Sum_of_24 ?_
    refine j_iload d_Sum_of_27 rfl ?_
    refine al_SM_3 d_Sum_of_29 (by omega) (by omega) (by omega) ?_
    refine j_istore d_Sum_of_30 (by decide) ?_
    show SJ _ _ _ _ [_, _, _, _, _, _, _, _, _, _, _] _ _ _ _ _
    refine j_aload_n d_Sum_of_32 rfl ?_
    refine gf_SM_2_6 f_Sum_28 d_Sum_of_33 ?_
    refine j_iload d_Sum_of_36 rfl ?_
    refine al_SM_4 d_Sum_of_38 (by omega) (by omega) (by omega) ?_
    refine j_istore d_Sum_of_39 (by decide) ?_
    show SJ _ _ _ _ [_, _, _, _, _, _, _, _, _, _, _] _ _ _ _ _
    refine j_iload d_Sum_of_41 rfl ?_
    refine j_iload d_Sum_of_43 rfl ?_
    refine z_icmp_ge (t := 51) d_Sum_of_45 (by decide) (by first | omega | exact hw _ | exact hx _ _ | assumption) (by first | omega | exact hw _ | exact hx _ _ | assumption) (fun h45 => ?_) (fun h45 => ?_)
    · rw [if_neg (by omega)] at hR
      refine j_iload d_Sum_of_51 rfl ?_
      refine j_iload d_Sum_of_53 rfl ?_
      refine s_call1 d_Sum_of_55 c_Sum_31 (Nat.le_of_ble_eq_true rfl) (t_Sum_taken (by omega) ?_)
      refine z_icmp_lt (t := 309) d_Sum_of_58 (by decide) (by first | omega | exact hw _ | exact hx _ _ | assumption) (by first | omega | exact hw _ | exact hx _ _ | assumption) (fun h58 => ?_) (fun h58 => ?_)
      · have hR2 : (0, 1) = (v, b) := by
          first
          | (rw [show (sz - q).toNat = 0 by omega] at hR
             simp only [mach] at hR
             exact Option.some.inj hR)
          | (rw [if_pos (by omega)] at hR
             exact Option.some.inj hR)
        obtain ⟨rfl, rfl⟩ := Prod.mk.inj hR2
        refine j_aload_n d_Sum_of_309 rfl ?_
        refine z_iconst d_Sum_of_310 ?_
        refine pf_SM_0_0 f_Sum_9 d_Sum_of_311 (by first | exact Or.inl rfl | exact Or.inr rfl | assumption | omega) ?_
        refine z_iconst d_Sum_of_314 ?_
        exact z_iret rfl d_Sum_of_315 rfl (hQ _)
      · refine j_iload d_Sum_of_61 rfl ?_
        refine j_aload_n d_Sum_of_63 rfl ?_
        refine gf_SM_0_1 f_Sum_15 d_Sum_of_64 ?_
        refine j_alen d_Sum_of_67 rfl (by decide) (show Int32.ofNat 51 = ii 51 by decide) ?_
        refine z_icmp_lt (t := 74) d_Sum_of_68 (by decide) (by first | omega | exact hw _ | exact hx _ _ | assumption) (by first | omega | exact hw _ | exact hx _ _ | assumption) (fun h68 => ?_) (fun h68 => ?_)
        · have htn : tkn (st q) ≤ top ∧ top < 51 := by omega
          refine j_iload d_Sum_of_74 rfl ?_
          refine z_case (33) (fun h76_0 => ?_) (fun h76_0 => ?_)
          · refine z_lookIn (t := 178) (o := 102) d_Sum_of_76 (by first | omega | exact hw _ | exact hx _ _ | assumption) h76_0 (by decide) (by decide) (by decide) ?_
            rw [if_neg (by omega), if_neg (by omega), if_neg (by omega), if_neg (by omega), if_pos (by omega)] at hR
            obtain ⟨hr1, hR⟩ := ite_sn hR
            have htt : tkn (st q) = 1 := by unfold tkn; rw [if_neg (by omega), if_pos (by omega)]
            refine j_aload_n d_Sum_of_178 rfl ?_
            refine gf_SM_0_1 f_Sum_15 d_Sum_of_179 ?_
            refine j_iload d_Sum_of_182 rfl ?_
            refine z_iconst d_Sum_of_184 ?_
            refine z_isub d_Sum_of_185 ?_
            refine z_iconst d_Sum_of_186 ?_
            refine j_aload_n d_Sum_of_187 rfl ?_
            refine gf_SM_0_1 f_Sum_15 d_Sum_of_188 ?_
            refine j_iload d_Sum_of_191 rfl ?_
            refine z_iconst d_Sum_of_193 ?_
            refine z_isub d_Sum_of_194 ?_
            refine al_SM_1 d_Sum_of_195 (by omega) (by omega) ?_
            refine z_isub d_Sum_of_196 ?_
            refine as_SM_1 d_Sum_of_197 (by omega) (by omega) ?_
            refine j_goto (t := 303) d_Sum_of_198 (by decide) ?_
            refine z_iinc d_Sum_of_303 rfl (by decide) ?_
            show SJ _ _ _ _ [_, _, _, _, _, _, _, _, _, _, _] _ _ _ _ _
            refine j_goto (t := 14) d_Sum_of_306 (by decide) ?_
            refine SJ.mask [true, true, true, true, true, true, true, false, false, true, true] ?_
            show SJ _ _ _ _ [_, _, _, _, _, _, _, none, none, none, none] _ _ _ _ _
            exact ih _ (by omega) _ _ _ _ rfl (by omega) (by omega) (by omega) (by omega) (by omega) hR
          refine z_case (38) (fun h76_1 => ?_) (fun h76_1 => ?_)
          · refine z_lookIn (t := 201) (o := 125) d_Sum_of_76 (by first | omega | exact hw _ | exact hx _ _ | assumption) h76_1 (by decide) (by decide) (by decide) ?_
            rw [if_neg (by omega), if_neg (by omega), if_neg (by omega), if_neg (by omega), if_neg (by omega), if_pos (by omega)] at hR
            obtain ⟨hr1, hR⟩ := ite_sn hR
            have htt : tkn (st q) = 1 := by unfold tkn; rw [if_neg (by omega), if_pos (by omega)]
            refine j_aload_n d_Sum_of_201 rfl ?_
            refine gf_SM_0_1 f_Sum_15 d_Sum_of_202 ?_
            refine j_iload d_Sum_of_205 rfl ?_
            refine z_iconst d_Sum_of_207 ?_
            refine z_isub d_Sum_of_208 ?_
            refine al_SM_1 d_Sum_of_209 (by omega) (by omega) ?_
            refine j_iload d_Sum_of_210 rfl ?_
            refine z_bipush d_Sum_of_212 (by decide) ?_
            refine z_icmp_ne (t := 221) d_Sum_of_214 (by decide) (by first | omega | exact hw _ | exact hx _ _ | assumption) (by first | omega | exact hw _ | exact hx _ _ | assumption) (fun h214 => ?_) (fun h214 => ?_)
            · refine z_iconst d_Sum_of_221 ?_
              refine z_icmp_ne (t := 232) d_Sum_of_222 (by decide) (by first | omega | exact hw _ | exact hx _ _ | assumption) (by first | omega | exact hw _ | exact hx _ _ | assumption) (fun h222 => ?_) (fun h222 => ?_)
              · first
                | rw [if_neg (show ¬ sk (top - 1) = (if st q = 124 then 1 else 0) by rw [if_pos (by omega)]; omega)] at hR
                | rw [if_neg (show ¬ sk (top - 1) = (if st q = 124 then 1 else 0) by rw [if_neg (by omega)]; omega)] at hR
                refine z_iinc d_Sum_of_232 rfl (by decide) ?_
                show SJ _ _ _ _ [_, _, _, _, _, _, _, _, _, _, _] _ _ _ _ _
                refine j_goto (t := 303) d_Sum_of_235 (by decide) ?_
                refine z_iinc d_Sum_of_303 rfl (by decide) ?_
                show SJ _ _ _ _ [_, _, _, _, _, _, _, _, _, _, _] _ _ _ _ _
                refine j_goto (t := 14) d_Sum_of_306 (by decide) ?_
                refine SJ.mask [true, true, true, true, true, true, true, false, false, true, true] ?_
                show SJ _ _ _ _ [_, _, _, _, _, _, _, none, none, none, none] _ _ _ _ _
                exact ih _ (by omega) _ _ _ _ rfl (by omega) (by omega) (by omega) (by omega) (by omega) hR
              · first
                | rw [if_pos (show sk (top - 1) = (if st q = 124 then 1 else 0) by rw [if_pos (by omega)]; omega)] at hR
                | rw [if_pos (show sk (top - 1) = (if st q = 124 then 1 else 0) by rw [if_neg (by omega)]; omega)] at hR
                refine j_iload d_Sum_of_225 rfl ?_
                refine j_istore d_Sum_of_227 (by decide) ?_
                show SJ _ _ _ _ [_, _, _, _, _, _, _, _, _, _, _] _ _ _ _ _
                refine j_goto (t := 303) d_Sum_of_229 (by decide) ?_
                refine z_iinc d_Sum_of_303 rfl (by decide) ?_
                show SJ _ _ _ _ [_, _, _, _, _, _, _, _, _, _, _] _ _ _ _ _
                refine j_goto (t := 14) d_Sum_of_306 (by decide) ?_
                refine SJ.mask [true, true, true, true, true, true, true, false, false, true, true] ?_
                show SJ _ _ _ _ [_, _, _, _, _, _, _, none, none, none, none] _ _ _ _ _
                exact ih _ (by omega) _ _ _ _ rfl (by omega) (by omega) (by omega) (by omega) (by omega) hR
            · refine z_iconst d_Sum_of_217 ?_
              refine j_goto (t := 222) d_Sum_of_218 (by decide) ?_
              refine z_icmp_ne (t := 232) d_Sum_of_222 (by decide) (by first | omega | exact hw _ | exact hx _ _ | assumption) (by first | omega | exact hw _ | exact hx _ _ | assumption) (fun h222 => ?_) (fun h222 => ?_)
              · first
                | rw [if_neg (show ¬ sk (top - 1) = (if st q = 124 then 1 else 0) by rw [if_pos (by omega)]; omega)] at hR
                | rw [if_neg (show ¬ sk (top - 1) = (if st q = 124 then 1 else 0) by rw [if_neg (by omega)]; omega)] at hR
                refine z_iinc d_Sum_of_232 rfl (by decide) ?_
                show SJ _ _ _ _ [_, _, _, _, _, _, _, _, _, _, _] _ _ _ _ _
                refine j_goto (t := 303) d_Sum_of_235 (by decide) ?_
                refine z_iinc d_Sum_of_303 rfl (by decide) ?_
                show SJ _ _ _ _ [_, _, _, _, _, _, _, _, _, _, _] _ _ _ _ _
                refine j_goto (t := 14) d_Sum_of_306 (by decide) ?_
                refine SJ.mask [true, true, true, true, true, true, true, false, false, true, true] ?_
                show SJ _ _ _ _ [_, _, _, _, _, _, _, none, none, none, none] _ _ _ _ _
                exact ih _ (by omega) _ _ _ _ rfl (by omega) (by omega) (by omega) (by omega) (by omega) hR
              · first
                | rw [if_pos (show sk (top - 1) = (if st q = 124 then 1 else 0) by rw [if_pos (by omega)]; omega)] at hR
                | rw [if_pos (show sk (top - 1) = (if st q = 124 then 1 else 0) by rw [if_neg (by omega)]; omega)] at hR
                refine j_iload d_Sum_of_225 rfl ?_
                refine j_istore d_Sum_of_227 (by decide) ?_
                show SJ _ _ _ _ [_, _, _, _, _, _, _, _, _, _, _] _ _ _ _ _
                refine j_goto (t := 303) d_Sum_of_229 (by decide) ?_
                refine z_iinc d_Sum_of_303 rfl (by decide) ?_
                show SJ _ _ _ _ [_, _, _, _, _, _, _, _, _, _, _] _ _ _ _ _
                refine j_goto (t := 14) d_Sum_of_306 (by decide) ?_
                refine SJ.mask [true, true, true, true, true, true, true, false, false, true, true] ?_
                show SJ _ _ _ _ [_, _, _, _, _, _, _, none, none, none, none] _ _ _ _ _
                exact ih _ (by omega) _ _ _ _ rfl (by omega) (by omega) (by omega) (by omega) (by omega) hR
          refine z_case (46) (fun h76_2 => ?_) (fun h76_2 => ?_)
          · refine z_lookIn (t := 136) (o := 60) d_Sum_of_76 (by first | omega | exact hw _ | exact hx _ _ | assumption) h76_2 (by decide) (by decide) (by decide) ?_
            rw [if_neg (by omega), if_pos (by omega)] at hR
            obtain ⟨hr1, hR2⟩ := ite_sn hR
            obtain ⟨rfl, rfl⟩ := Prod.mk.inj (Option.some.inj hR2)
            have htt : tkn (st q) = 1 := by unfold tkn; rw [if_neg (by omega), if_pos (by omega)]
            refine j_aload_n d_Sum_of_136 rfl ?_
            refine gf_SM_0_1 f_Sum_15 d_Sum_of_137 ?_
            refine j_iload d_Sum_of_140 rfl ?_
            refine z_iconst d_Sum_of_142 ?_
            refine z_isub d_Sum_of_143 ?_
            refine al_SM_1 d_Sum_of_144 (by omega) (by omega) ?_
            exact z_iret rfl d_Sum_of_145 rfl (hQ _)
          refine z_case (110) (fun h76_3 => ?_) (fun h76_3 => ?_)
          · refine z_lookIn (t := 146) (o := 70) d_Sum_of_76 (by first | omega | exact hw _ | exact hx _ _ | assumption) h76_3 (by decide) (by decide) (by decide) ?_
            rw [if_neg (by omega), if_neg (by omega), if_pos (by omega)] at hR
            obtain ⟨hr1, hR⟩ := ite_sn hR
            refine j_aload_n d_Sum_of_146 rfl ?_
            refine gf_SM_0_1 f_Sum_15 d_Sum_of_147 ?_
            refine j_iload d_Sum_of_150 rfl ?_
            refine j_iload d_Sum_of_152 rfl ?_
            refine as_SM_1 d_Sum_of_154 (by omega) (by omega) ?_
            refine z_iinc d_Sum_of_155 rfl (by decide) ?_
            show SJ _ _ _ _ [_, _, _, _, _, _, _, _, _, _, _] _ _ _ _ _
            refine j_goto (t := 303) d_Sum_of_158 (by decide) ?_
            refine z_iinc d_Sum_of_303 rfl (by decide) ?_
            show SJ _ _ _ _ [_, _, _, _, _, _, _, _, _, _, _] _ _ _ _ _
            refine j_goto (t := 14) d_Sum_of_306 (by decide) ?_
            refine SJ.mask [true, true, true, true, true, true, true, false, false, true, true] ?_
            show SJ _ _ _ _ [_, _, _, _, _, _, _, none, none, none, none] _ _ _ _ _
            exact ih _ (by omega) _ _ _ _ rfl (by omega) (by omega) (by omega) (by omega) (by omega) hR
          refine z_case (119) (fun h76_4 => ?_) (fun h76_4 => ?_)
          · refine z_lookIn (t := 161) (o := 85) d_Sum_of_76 (by first | omega | exact hw _ | exact hx _ _ | assumption) h76_4 (by decide) (by decide) (by decide) ?_
            rw [if_neg (by omega), if_neg (by omega), if_neg (by omega), if_pos (by omega)] at hR
            obtain ⟨hr1, hR⟩ := ite_sn hR
            refine j_aload_n d_Sum_of_161 rfl ?_
            refine gf_SM_0_1 f_Sum_15 d_Sum_of_162 ?_
            refine j_iload d_Sum_of_165 rfl ?_
            refine j_aload_n d_Sum_of_167 rfl ?_
            refine j_iload d_Sum_of_168 rfl ?_
            refine al_SM_5 d_Sum_of_170 (by omega) (by omega) ?_
            refine as_SM_1 d_Sum_of_171 (by omega) (by omega) ?_
            refine z_iinc d_Sum_of_172 rfl (by decide) ?_
            show SJ _ _ _ _ [_, _, _, _, _, _, _, _, _, _, _] _ _ _ _ _
            refine j_goto (t := 303) d_Sum_of_175 (by decide) ?_
            refine z_iinc d_Sum_of_303 rfl (by decide) ?_
            show SJ _ _ _ _ [_, _, _, _, _, _, _, _, _, _, _] _ _ _ _ _
            refine j_goto (t := 14) d_Sum_of_306 (by decide) ?_
            refine SJ.mask [true, true, true, true, true, true, true, false, false, true, true] ?_
            show SJ _ _ _ _ [_, _, _, _, _, _, _, none, none, none, none] _ _ _ _ _
            exact ih _ (by omega) _ _ _ _ rfl (by omega) (by omega) (by omega) (by omega) (by omega) hR
          refine z_case (124) (fun h76_5 => ?_) (fun h76_5 => ?_)
          · refine z_lookIn (t := 201) (o := 125) d_Sum_of_76 (by first | omega | exact hw _ | exact hx _ _ | assumption) h76_5 (by decide) (by decide) (by decide) ?_
            rw [if_neg (by omega), if_neg (by omega), if_neg (by omega), if_neg (by omega), if_neg (by omega), if_pos (by omega)] at hR
            obtain ⟨hr1, hR⟩ := ite_sn hR
            have htt : tkn (st q) = 1 := by unfold tkn; rw [if_neg (by omega), if_pos (by omega)]
            refine j_aload_n d_Sum_of_201 rfl ?_
            refine gf_SM_0_1 f_Sum_15 d_Sum_of_202 ?_
            refine j_iload d_Sum_of_205 rfl ?_
            refine z_iconst d_Sum_of_207 ?_
            refine z_isub d_Sum_of_208 ?_
            refine al_SM_1 d_Sum_of_209 (by omega) (by omega) ?_
            refine j_iload d_Sum_of_210 rfl ?_
            refine z_bipush d_Sum_of_212 (by decide) ?_
            refine z_icmp_ne (t := 221) d_Sum_of_214 (by decide) (by first | omega | exact hw _ | exact hx _ _ | assumption) (by first | omega | exact hw _ | exact hx _ _ | assumption) (fun h214 => ?_) (fun h214 => ?_)
            · refine z_iconst d_Sum_of_221 ?_
              refine z_icmp_ne (t := 232) d_Sum_of_222 (by decide) (by first | omega | exact hw _ | exact hx _ _ | assumption) (by first | omega | exact hw _ | exact hx _ _ | assumption) (fun h222 => ?_) (fun h222 => ?_)
              · first
                | rw [if_neg (show ¬ sk (top - 1) = (if st q = 124 then 1 else 0) by rw [if_pos (by omega)]; omega)] at hR
                | rw [if_neg (show ¬ sk (top - 1) = (if st q = 124 then 1 else 0) by rw [if_neg (by omega)]; omega)] at hR
                refine z_iinc d_Sum_of_232 rfl (by decide) ?_
                show SJ _ _ _ _ [_, _, _, _, _, _, _, _, _, _, _] _ _ _ _ _
                refine j_goto (t := 303) d_Sum_of_235 (by decide) ?_
                refine z_iinc d_Sum_of_303 rfl (by decide) ?_
                show SJ _ _ _ _ [_, _, _, _, _, _, _, _, _, _, _] _ _ _ _ _
                refine j_goto (t := 14) d_Sum_of_306 (by decide) ?_
                refine SJ.mask [true, true, true, true, true, true, true, false, false, true, true] ?_
                show SJ _ _ _ _ [_, _, _, _, _, _, _, none, none, none, none] _ _ _ _ _
                exact ih _ (by omega) _ _ _ _ rfl (by omega) (by omega) (by omega) (by omega) (by omega) hR
              · first
                | rw [if_pos (show sk (top - 1) = (if st q = 124 then 1 else 0) by rw [if_pos (by omega)]; omega)] at hR
                | rw [if_pos (show sk (top - 1) = (if st q = 124 then 1 else 0) by rw [if_neg (by omega)]; omega)] at hR
                refine j_iload d_Sum_of_225 rfl ?_
                refine j_istore d_Sum_of_227 (by decide) ?_
                show SJ _ _ _ _ [_, _, _, _, _, _, _, _, _, _, _] _ _ _ _ _
                refine j_goto (t := 303) d_Sum_of_229 (by decide) ?_
                refine z_iinc d_Sum_of_303 rfl (by decide) ?_
                show SJ _ _ _ _ [_, _, _, _, _, _, _, _, _, _, _] _ _ _ _ _
                refine j_goto (t := 14) d_Sum_of_306 (by decide) ?_
                refine SJ.mask [true, true, true, true, true, true, true, false, false, true, true] ?_
                show SJ _ _ _ _ [_, _, _, _, _, _, _, none, none, none, none] _ _ _ _ _
                exact ih _ (by omega) _ _ _ _ rfl (by omega) (by omega) (by omega) (by omega) (by omega) hR
            · refine z_iconst d_Sum_of_217 ?_
              refine j_goto (t := 222) d_Sum_of_218 (by decide) ?_
              refine z_icmp_ne (t := 232) d_Sum_of_222 (by decide) (by first | omega | exact hw _ | exact hx _ _ | assumption) (by first | omega | exact hw _ | exact hx _ _ | assumption) (fun h222 => ?_) (fun h222 => ?_)
              · first
                | rw [if_neg (show ¬ sk (top - 1) = (if st q = 124 then 1 else 0) by rw [if_pos (by omega)]; omega)] at hR
                | rw [if_neg (show ¬ sk (top - 1) = (if st q = 124 then 1 else 0) by rw [if_neg (by omega)]; omega)] at hR
                refine z_iinc d_Sum_of_232 rfl (by decide) ?_
                show SJ _ _ _ _ [_, _, _, _, _, _, _, _, _, _, _] _ _ _ _ _
                refine j_goto (t := 303) d_Sum_of_235 (by decide) ?_
                refine z_iinc d_Sum_of_303 rfl (by decide) ?_
                show SJ _ _ _ _ [_, _, _, _, _, _, _, _, _, _, _] _ _ _ _ _
                refine j_goto (t := 14) d_Sum_of_306 (by decide) ?_
                refine SJ.mask [true, true, true, true, true, true, true, false, false, true, true] ?_
                show SJ _ _ _ _ [_, _, _, _, _, _, _, none, none, none, none] _ _ _ _ _
                exact ih _ (by omega) _ _ _ _ rfl (by omega) (by omega) (by omega) (by omega) (by omega) hR
              · first
                | rw [if_pos (show sk (top - 1) = (if st q = 124 then 1 else 0) by rw [if_pos (by omega)]; omega)] at hR
                | rw [if_pos (show sk (top - 1) = (if st q = 124 then 1 else 0) by rw [if_neg (by omega)]; omega)] at hR
                refine j_iload d_Sum_of_225 rfl ?_
                refine j_istore d_Sum_of_227 (by decide) ?_
                show SJ _ _ _ _ [_, _, _, _, _, _, _, _, _, _, _] _ _ _ _ _
                refine j_goto (t := 303) d_Sum_of_229 (by decide) ?_
                refine z_iinc d_Sum_of_303 rfl (by decide) ?_
                show SJ _ _ _ _ [_, _, _, _, _, _, _, _, _, _, _] _ _ _ _ _
                refine j_goto (t := 14) d_Sum_of_306 (by decide) ?_
                refine SJ.mask [true, true, true, true, true, true, true, false, false, true, true] ?_
                show SJ _ _ _ _ [_, _, _, _, _, _, _, none, none, none, none] _ _ _ _ _
                exact ih _ (by omega) _ _ _ _ rfl (by omega) (by omega) (by omega) (by omega) (by omega) hR
          refine z_lookOut (t := 238) d_Sum_of_76 (by first | omega | exact hw _ | exact hx _ _ | assumption) (by simp [Op.lookupswitch.offset_cons, Op.lookupswitch.offset_nil]; omega) (by decide) (by decide) ?_
          rw [if_neg (by omega), if_neg (by omega), if_neg (by omega), if_neg (by omega), if_neg (by omega), if_neg (by omega)] at hR
          obtain ⟨hr1, hR⟩ := ite_sn hR
          have htt : tkn (st q) = 2 := by unfold tkn; rw [if_neg (by omega), if_neg (by omega)]
          have hcr := cmbJ_R (s := st q) hr1.1 hr1.2
          refine z_iinc d_Sum_of_238 rfl (by decide) ?_
          show SJ _ _ _ _ [_, _, _, _, _, _, _, _, _, _, _] _ _ _ _ _
          rw [show top + -1 = top - 1 by omega]
          refine j_iload d_Sum_of_241 rfl ?_
          refine j_aload_n d_Sum_of_243 rfl ?_
          refine gf_SM_0_1 f_Sum_15 d_Sum_of_244 ?_
          refine j_iload d_Sum_of_247 rfl ?_
          refine z_iconst d_Sum_of_249 ?_
          refine z_isub d_Sum_of_250 ?_
          rw [show top - 1 - 1 = top - 2 by omega]
          refine al_SM_1 d_Sum_of_251 (by omega) (by omega) ?_
          refine z_i2l d_Sum_of_252 (by first | omega | exact hw _ | exact hx _ _ | assumption) ?_
          refine j_aload_n d_Sum_of_253 rfl ?_
          refine gf_SM_0_1 f_Sum_15 d_Sum_of_254 ?_
          refine j_iload d_Sum_of_257 rfl ?_
          refine al_SM_1 d_Sum_of_259 (by omega) (by omega) ?_
          refine z_i2l d_Sum_of_260 (by first | omega | exact hw _ | exact hx _ _ | assumption) ?_
          refine s_call3 d_Sum_of_261 c_Sum_35 (Nat.le_of_ble_eq_true rfl) (t_Sum_combined (by omega) hr1.1 hr1.2 ?_)
          refine j_lstore d_Sum_of_264 (by decide) ?_
          show SJ _ _ _ _ [_, _, _, _, _, _, _, _, _, _, _] _ _ _ _ _
          refine j_lload d_Sum_of_266 rfl ?_
          refine z_ldc2 (w := 1000000000) d_Sum_of_268 k_Sum_39 (by decide) ?_
          refine z_lcmp_gt (t := 284) d_Sum_of_271 d_Sum_of_272 (by decide) (by first | omega | exact hw _ | exact hx _ _ | assumption) (by first | omega | exact hw _ | exact hx _ _ | assumption) (fun h271 => ?_) (fun h271 => ?_)
          · rw [if_pos (by omega)] at hR
            obtain ⟨rfl, rfl⟩ := Prod.mk.inj (Option.some.inj hR)
            refine j_aload_n d_Sum_of_284 rfl ?_
            refine z_iconst d_Sum_of_285 ?_
            refine pf_SM_0_0 f_Sum_9 d_Sum_of_286 (by first | exact Or.inl rfl | exact Or.inr rfl | assumption | omega) ?_
            refine z_iconst d_Sum_of_289 ?_
            exact z_iret rfl d_Sum_of_290 rfl (hQ _)
          · refine j_lload d_Sum_of_275 rfl ?_
            refine z_ldc2 (w := -1000000000) d_Sum_of_277 k_Sum_41 (by decide) ?_
            refine z_lcmp_ge (t := 291) d_Sum_of_280 d_Sum_of_281 (by decide) (by first | omega | exact hw _ | exact hx _ _ | assumption) (by first | omega | exact hw _ | exact hx _ _ | assumption) (fun h280 => ?_) (fun h280 => ?_)
            · rw [if_neg (by omega)] at hR
              refine j_aload_n d_Sum_of_291 rfl ?_
              refine gf_SM_0_1 f_Sum_15 d_Sum_of_292 ?_
              refine j_iload d_Sum_of_295 rfl ?_
              refine z_iconst d_Sum_of_297 ?_
              refine z_isub d_Sum_of_298 ?_
              refine j_lload d_Sum_of_299 rfl ?_
              refine z_l2i d_Sum_of_301 (by first | omega | exact hw _ | exact hx _ _ | assumption) ?_
              rw [show top - 1 - 1 = top - 2 by omega]
              refine as_SM_1 d_Sum_of_302 (by omega) (by omega) ?_
              refine z_iinc d_Sum_of_303 rfl (by decide) ?_
              show SJ _ _ _ _ [_, _, _, _, _, _, _, _, _, _, _] _ _ _ _ _
              refine j_goto (t := 14) d_Sum_of_306 (by decide) ?_
              refine SJ.mask [true, true, true, true, true, true, true, false, false, false, true] ?_
              show SJ _ _ _ _ [_, _, _, _, _, _, _, none, none, none, none] _ _ _ _ _
              exact ih _ (by omega) _ _ _ _ rfl (by omega) (by omega) (by omega) (by omega) (by omega) hR
            · rw [if_pos (by omega)] at hR
              obtain ⟨rfl, rfl⟩ := Prod.mk.inj (Option.some.inj hR)
              refine j_aload_n d_Sum_of_284 rfl ?_
              refine z_iconst d_Sum_of_285 ?_
              refine pf_SM_0_0 f_Sum_9 d_Sum_of_286 (by first | exact Or.inl rfl | exact Or.inr rfl | assumption | omega) ?_
              refine z_iconst d_Sum_of_289 ?_
              exact z_iret rfl d_Sum_of_290 rfl (hQ _)
        · refine j_goto (t := 309) d_Sum_of_71 (by decide) ?_
          have hR2 : (0, 1) = (v, b) := by
            first
            | (rw [show (sz - q).toNat = 0 by omega] at hR
               simp only [mach] at hR
               exact Option.some.inj hR)
            | (rw [if_pos (by omega)] at hR
               exact Option.some.inj hR)
          obtain ⟨rfl, rfl⟩ := Prod.mk.inj hR2
          refine j_aload_n d_Sum_of_309 rfl ?_
          refine z_iconst d_Sum_of_310 ?_
          refine pf_SM_0_0 f_Sum_9 d_Sum_of_311 (by first | exact Or.inl rfl | exact Or.inr rfl | assumption | omega) ?_
          refine z_iconst d_Sum_of_314 ?_
          exact z_iret rfl d_Sum_of_315 rfl (hQ _)
    · rw [if_pos (by omega)] at hR
      refine j_goto (t := 303) d_Sum_of_48 (by decide) ?_
      refine z_iinc d_Sum_of_303 rfl (by decide) ?_
      show SJ _ _ _ _ [_, _, _, _, _, _, _, _, _, _, _] _ _ _ _ _
      refine j_goto (t := 14) d_Sum_of_306 (by decide) ?_
      refine SJ.mask [true, true, true, true, true, true, true, false, false, true, true] ?_
      show SJ _ _ _ _ [_, _, _, _, _, _, _, none, none, none, none] _ _ _ _ _
      exact ih _ (by omega) _ _ _ _ rfl (by omega) (by omega) (by omega) (by omega) (by omega) hR
theorem t_Sum_of {g : Bool} {d : Nat} {Q : List xM → Option Value → Prop} {br tc sz : Int} {sk st vl wd : Int → Int} {SL : Nat} (z0_ : 0 ≤ sz) (z1_ : sz ≤ (SL : Int)) (z2_ : SL ≤ 1000) (hst : ∀ j, 0 ≤ j → j < sz → 0 ≤ st j ∧ st j ≤ 400) {start v b : Int} (s0 : 0 ≤ start) (s1 : start ≤ sz) (hR : mach st vl wd (sz - start).toNat start 0 sk start = some (v, b)) (hQ : ∀ skz, Q (W_SM b tc sz skz st vl wd SL) (some (.int (ii v)))) : CT g m_Sum_of (d + 1) [.ref 0, .ref 2, .int (ii start), .ref 5] (W_SM br tc sz sk st vl wd SL) 0 0 Q := by
  refine CT.of (by decide) (Nat.le_of_ble_eq_true rfl) ?_
  show SJ _ _ _ _ [some (.ref 0), some (.ref 2), some (.int (ii start)), some (.ref 5), none, none, none, none, none, none, none] [] _ _ _ _
  refine j_aload_n d_Sum_of_0 rfl ?_
  refine z_iconst d_Sum_of_1 ?_
  refine pf_SM_0_0 f_Sum_9 d_Sum_of_2 (by first | exact Or.inl rfl | exact Or.inr rfl | assumption | omega) ?_
  refine z_iconst d_Sum_of_5 ?_
  refine j_istore d_Sum_of_6 (by decide) ?_
  show SJ _ _ _ _ [_, _, _, _, _, _, _, _, _, _, _] _ _ _ _ _
  refine j_iload_n d_Sum_of_8 rfl ?_
  refine j_istore d_Sum_of_9 (by decide) ?_
  show SJ _ _ _ _ [_, _, _, _, _, _, _, _, _, _, _] _ _ _ _ _
  refine j_iload_n d_Sum_of_11 rfl ?_
  refine j_istore d_Sum_of_12 (by decide) ?_
  show SJ _ _ _ _ [_, _, _, _, _, _, _, _, _, _, _] _ _ _ _ _
  exact lp_of z0_ z1_ z2_ hst hQ _ start 0 start sk rfl s0 s1 (by omega) (by omega) (by omega) hR
