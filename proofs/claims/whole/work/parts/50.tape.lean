def W_TP (pz : Int) (pn : Int) (by_ : Int → Int) (tk : Int → Int) (ps : Int → Int) (pv : Int → Int) (pw : Int → Int) : List xM := [.inr (9, [.ref 1, .int (ii pz), .ref 2, .ref 3, .ref 4, .int (ii pn), .ref 5]), .inl (0, 400, .inl (ia (by_))), .inl (0, 401, .inl (ia (tk))), .inl (0, 401, .inl (ia (ps))), .inl (0, 401, .inl (ia (pv))), .inl (4, 137, .inl (ia (pw)))]
section WR_TP
variable {g : Bool} {y : xY} {d pc : Nat} {L : List (Option Value)} {zst : List Value} {bc bs : Nat} {Q : List xM → Option Value → Prop} {pz pn : Int} {by_ tk ps pv pw : Int → Int} 
theorem gf_TP_0_0 {idx : Nat} (hf : x_fs y.1.cls idx 9 0) (hd : decode y.2.1 pc = .ok (.getfield idx, 3)) (kk : SJ g y d (pc + 3) L (.ref 1 :: zst) (W_TP pz pn by_ tk ps pv pw) bc bs Q) : SJ g y d pc L (.ref 0 :: zst) (W_TP pz pn by_ tk ps pv pw) bc bs Q := j_getf hd hf rfl rfl kk
theorem gf_TP_0_1 {idx : Nat} (hf : x_fs y.1.cls idx 9 1) (hd : decode y.2.1 pc = .ok (.getfield idx, 3)) (kk : SJ g y d (pc + 3) L (.int (ii pz) :: zst) (W_TP pz pn by_ tk ps pv pw) bc bs Q) : SJ g y d pc L (.ref 0 :: zst) (W_TP pz pn by_ tk ps pv pw) bc bs Q := j_getf hd hf rfl rfl kk
theorem pf_TP_0_1 {idx : Nat} {v : Int} (hf : x_fs y.1.cls idx 9 1) (hd : decode y.2.1 pc = .ok (.putfield idx, 3)) (kk : SJ g y d (pc + 3) L zst (W_TP v pn by_ tk ps pv pw) bc bs Q) : SJ g y d pc L (.int (ii v) :: .ref 0 :: zst) (W_TP pz pn by_ tk ps pv pw) bc bs Q := j_putf (ci := 9) (k := 1) hd hf ⟨_, rfl, rfl, rfl⟩ rfl (Nat.le_of_ble_eq_true rfl) x_okI kk
theorem gf_TP_0_2 {idx : Nat} (hf : x_fs y.1.cls idx 9 2) (hd : decode y.2.1 pc = .ok (.getfield idx, 3)) (kk : SJ g y d (pc + 3) L (.ref 2 :: zst) (W_TP pz pn by_ tk ps pv pw) bc bs Q) : SJ g y d pc L (.ref 0 :: zst) (W_TP pz pn by_ tk ps pv pw) bc bs Q := j_getf hd hf rfl rfl kk
theorem gf_TP_0_3 {idx : Nat} (hf : x_fs y.1.cls idx 9 3) (hd : decode y.2.1 pc = .ok (.getfield idx, 3)) (kk : SJ g y d (pc + 3) L (.ref 3 :: zst) (W_TP pz pn by_ tk ps pv pw) bc bs Q) : SJ g y d pc L (.ref 0 :: zst) (W_TP pz pn by_ tk ps pv pw) bc bs Q := j_getf hd hf rfl rfl kk
theorem gf_TP_0_4 {idx : Nat} (hf : x_fs y.1.cls idx 9 4) (hd : decode y.2.1 pc = .ok (.getfield idx, 3)) (kk : SJ g y d (pc + 3) L (.ref 4 :: zst) (W_TP pz pn by_ tk ps pv pw) bc bs Q) : SJ g y d pc L (.ref 0 :: zst) (W_TP pz pn by_ tk ps pv pw) bc bs Q := j_getf hd hf rfl rfl kk
theorem gf_TP_0_5 {idx : Nat} (hf : x_fs y.1.cls idx 9 5) (hd : decode y.2.1 pc = .ok (.getfield idx, 3)) (kk : SJ g y d (pc + 3) L (.int (ii pn) :: zst) (W_TP pz pn by_ tk ps pv pw) bc bs Q) : SJ g y d pc L (.ref 0 :: zst) (W_TP pz pn by_ tk ps pv pw) bc bs Q := j_getf hd hf rfl rfl kk
theorem pf_TP_0_5 {idx : Nat} {v : Int} (hf : x_fs y.1.cls idx 9 5) (hd : decode y.2.1 pc = .ok (.putfield idx, 3)) (kk : SJ g y d (pc + 3) L zst (W_TP pz v by_ tk ps pv pw) bc bs Q) : SJ g y d pc L (.int (ii v) :: .ref 0 :: zst) (W_TP pz pn by_ tk ps pv pw) bc bs Q := j_putf (ci := 9) (k := 5) hd hf ⟨_, rfl, rfl, rfl⟩ rfl (Nat.le_of_ble_eq_true rfl) x_okI kk
theorem gf_TP_0_6 {idx : Nat} (hf : x_fs y.1.cls idx 9 6) (hd : decode y.2.1 pc = .ok (.getfield idx, 3)) (kk : SJ g y d (pc + 3) L (.ref 5 :: zst) (W_TP pz pn by_ tk ps pv pw) bc bs Q) : SJ g y d pc L (.ref 0 :: zst) (W_TP pz pn by_ tk ps pv pw) bc bs Q := j_getf hd hf rfl rfl kk
theorem al_TP_1 {a : Int} (hd : decode y.2.1 pc = .ok (.iaload, 1)) (h0 : 0 ≤ a) (h1 : a < 400) (kk : SJ g y d (pc + 1) L (.int (ii (by_ a)) :: zst) (W_TP pz pn by_ tk ps pv pw) bc bs Q) : SJ g y d pc L (.int (ii a) :: .ref 1 :: zst) (W_TP pz pn by_ tk ps pv pw) bc bs Q := z_iald hd rfl h0 h1 ⟨by omega, by omega⟩ kk
theorem as_TP_1 {a v : Int} (hd : decode y.2.1 pc = .ok (.iastore, 1)) (h0 : 0 ≤ a) (h1 : a < 400) (kk : SJ g y d (pc + 1) L zst (W_TP pz pn (up by_ a v) tk ps pv pw) bc bs Q) : SJ g y d pc L (.int (ii v) :: .int (ii a) :: .ref 1 :: zst) (W_TP pz pn by_ tk ps pv pw) bc bs Q := z_iast hd rfl h0 h1 ⟨by omega, by omega⟩ kk
theorem al_TP_2 {a : Int} (hd : decode y.2.1 pc = .ok (.iaload, 1)) (h0 : 0 ≤ a) (h1 : a < 401) (kk : SJ g y d (pc + 1) L (.int (ii (tk a)) :: zst) (W_TP pz pn by_ tk ps pv pw) bc bs Q) : SJ g y d pc L (.int (ii a) :: .ref 2 :: zst) (W_TP pz pn by_ tk ps pv pw) bc bs Q := z_iald hd rfl h0 h1 ⟨by omega, by omega⟩ kk
theorem as_TP_2 {a v : Int} (hd : decode y.2.1 pc = .ok (.iastore, 1)) (h0 : 0 ≤ a) (h1 : a < 401) (kk : SJ g y d (pc + 1) L zst (W_TP pz pn by_ (up tk a v) ps pv pw) bc bs Q) : SJ g y d pc L (.int (ii v) :: .int (ii a) :: .ref 2 :: zst) (W_TP pz pn by_ tk ps pv pw) bc bs Q := z_iast hd rfl h0 h1 ⟨by omega, by omega⟩ kk
theorem al_TP_3 {a : Int} (hd : decode y.2.1 pc = .ok (.iaload, 1)) (h0 : 0 ≤ a) (h1 : a < 401) (kk : SJ g y d (pc + 1) L (.int (ii (ps a)) :: zst) (W_TP pz pn by_ tk ps pv pw) bc bs Q) : SJ g y d pc L (.int (ii a) :: .ref 3 :: zst) (W_TP pz pn by_ tk ps pv pw) bc bs Q := z_iald hd rfl h0 h1 ⟨by omega, by omega⟩ kk
theorem as_TP_3 {a v : Int} (hd : decode y.2.1 pc = .ok (.iastore, 1)) (h0 : 0 ≤ a) (h1 : a < 401) (kk : SJ g y d (pc + 1) L zst (W_TP pz pn by_ tk (up ps a v) pv pw) bc bs Q) : SJ g y d pc L (.int (ii v) :: .int (ii a) :: .ref 3 :: zst) (W_TP pz pn by_ tk ps pv pw) bc bs Q := z_iast hd rfl h0 h1 ⟨by omega, by omega⟩ kk
theorem al_TP_4 {a : Int} (hd : decode y.2.1 pc = .ok (.iaload, 1)) (h0 : 0 ≤ a) (h1 : a < 401) (kk : SJ g y d (pc + 1) L (.int (ii (pv a)) :: zst) (W_TP pz pn by_ tk ps pv pw) bc bs Q) : SJ g y d pc L (.int (ii a) :: .ref 4 :: zst) (W_TP pz pn by_ tk ps pv pw) bc bs Q := z_iald hd rfl h0 h1 ⟨by omega, by omega⟩ kk
theorem as_TP_4 {a v : Int} (hd : decode y.2.1 pc = .ok (.iastore, 1)) (h0 : 0 ≤ a) (h1 : a < 401) (kk : SJ g y d (pc + 1) L zst (W_TP pz pn by_ tk ps (up pv a v) pw) bc bs Q) : SJ g y d pc L (.int (ii v) :: .int (ii a) :: .ref 4 :: zst) (W_TP pz pn by_ tk ps pv pw) bc bs Q := z_iast hd rfl h0 h1 ⟨by omega, by omega⟩ kk
theorem al_TP_5 {a : Int} (hd : decode y.2.1 pc = .ok (.caload, 1)) (h0 : 0 ≤ a) (h1 : a < 137) (kk : SJ g y d (pc + 1) L (.int (ii (pw a)) :: zst) (W_TP pz pn by_ tk ps pv pw) bc bs Q) : SJ g y d pc L (.int (ii a) :: .ref 5 :: zst) (W_TP pz pn by_ tk ps pv pw) bc bs Q := z_cald hd rfl h0 h1 ⟨by omega, by omega⟩ kk
end WR_TP
set_option maxHeartbeats 400000 in
theorem t_Tap_isLetter {g : Bool} {d : Nat} {Q : List xM → Option Value → Prop} {mem : List xM} {s : Int} (r1 : R32 s) (ht : isS s → Q mem (some (.int (ii 1)))) (hf : ¬ (isS s) → Q mem (some (.int (ii 0)))) : CT g m_Tap_isLetter d [.int (ii s)] mem 0 0 Q := by
  refine CT.of (by decide) (Nat.le_of_ble_eq_true rfl) ?_
  show SJ _ _ _ _ [some (.int (ii s))] [] _ _ _ _
  refine j_iload_n d_Tap_isLetter_0 rfl ?_
  refine z_bipush d_Tap_isLetter_1 (by decide) ?_
  refine z_icmp_lt (t := 16) d_Tap_isLetter_3 (by decide) (by first | omega | exact hw _ | exact hx _ _ | assumption) (by first | omega | exact hw _ | exact hx _ _ | assumption) (fun h3 => ?_) (fun h3 => ?_)
  · refine z_iconst d_Tap_isLetter_16 ?_
    exact z_zreturn rfl (Or.inl rfl) d_Tap_isLetter_17 (hf (by first | omega | simp_all))
  · refine j_iload_n d_Tap_isLetter_6 rfl ?_
    refine z_bipush d_Tap_isLetter_7 (by decide) ?_
    refine z_icmp_gt (t := 16) d_Tap_isLetter_9 (by decide) (by first | omega | exact hw _ | exact hx _ _ | assumption) (by first | omega | exact hw _ | exact hx _ _ | assumption) (fun h9 => ?_) (fun h9 => ?_)
    · refine z_iconst d_Tap_isLetter_16 ?_
      exact z_zreturn rfl (Or.inl rfl) d_Tap_isLetter_17 (hf (by first | omega | simp_all))
    · refine z_iconst d_Tap_isLetter_12 ?_
      refine j_goto (t := 17) d_Tap_isLetter_13 (by decide) ?_
      exact z_zreturn rfl (Or.inr rfl) d_Tap_isLetter_17 (ht (by first | omega | simp_all))
set_option maxHeartbeats 400000 in
theorem t_Tap_isDigit {g : Bool} {d : Nat} {Q : List xM → Option Value → Prop} {mem : List xM} {s : Int} (r1 : R32 s) (ht : isDg s → Q mem (some (.int (ii 1)))) (hf : ¬ (isDg s) → Q mem (some (.int (ii 0)))) : CT g m_Tap_isDigit d [.int (ii s)] mem 0 0 Q := by
  refine CT.of (by decide) (Nat.le_of_ble_eq_true rfl) ?_
  show SJ _ _ _ _ [some (.int (ii s))] [] _ _ _ _
  refine j_iload_n d_Tap_isDigit_0 rfl ?_
  refine z_bipush d_Tap_isDigit_1 (by decide) ?_
  refine z_icmp_lt (t := 16) d_Tap_isDigit_3 (by decide) (by first | omega | exact hw _ | exact hx _ _ | assumption) (by first | omega | exact hw _ | exact hx _ _ | assumption) (fun h3 => ?_) (fun h3 => ?_)
  · refine z_iconst d_Tap_isDigit_16 ?_
    exact z_zreturn rfl (Or.inl rfl) d_Tap_isDigit_17 (hf (by first | omega | simp_all))
  · refine j_iload_n d_Tap_isDigit_6 rfl ?_
    refine z_bipush d_Tap_isDigit_7 (by decide) ?_
    refine z_icmp_gt (t := 16) d_Tap_isDigit_9 (by decide) (by first | omega | exact hw _ | exact hx _ _ | assumption) (by first | omega | exact hw _ | exact hx _ _ | assumption) (fun h9 => ?_) (fun h9 => ?_)
    · refine z_iconst d_Tap_isDigit_16 ?_
      exact z_zreturn rfl (Or.inl rfl) d_Tap_isDigit_17 (hf (by first | omega | simp_all))
    · refine z_iconst d_Tap_isDigit_12 ?_
      refine j_goto (t := 17) d_Tap_isDigit_13 (by decide) ?_
      exact z_zreturn rfl (Or.inr rfl) d_Tap_isDigit_17 (ht (by first | omega | simp_all))
set_option maxHeartbeats 400000 in
theorem lp_endOfS {g : Bool} {d : Nat} {Q : List xM → Option Value → Prop} {pz pn : Int} {by_ tk ps pv pw : Int → Int} (hby : ∀ j, 0 ≤ j → j < 400 → 0 ≤ by_ j ∧ by_ j ≤ 255) (z0_ : 0 ≤ pz) (z1_ : pz ≤ 400) {k E : Int} (hQ : Q (W_TP pz pn by_ tk ps pv pw) (some (.int (ii E)))) : ∀ (nn : Nat) (m : Nat) (to_ : Int), ((m : Int)).toNat = nn → 0 ≤ to_ → to_ ≤ pz → pz - to_ ≤ (m : Int) → rnT by_ isS pz m to_ = E → SJ g m_Tap_endOf (d + 1) 25 [some (.ref 0), some (.int (ii k)), some (.int (ii 1)), some (.int (ii 0)), some (.int (ii (to_)))] [] (W_TP pz pn by_ tk ps pv pw) 0 0 Q := by
  intro nn
  induction nn using Nat.strongRecOn with
  | ind nn ih =>
  intro m to_ hn t0 t1 hm hE
  refine j_iload d_Tap_endOf_25 rfl ?_
  refine j_aload_n d_Tap_endOf_27 rfl ?_
  refine gf_TP_0_1 f_Tap_15 d_Tap_endOf_28 ?_
  refine z_icmp_ge (t := 74) d_Tap_endOf_31 (by decide) (by first | omega | exact hw _ | exact hx _ _ | assumption) (by first | omega | exact hw _ | exact hx _ _ | assumption) (fun h31 => ?_) (fun h31 => ?_)
  · first
    | (rw [if_neg (by omega)] at hE
       subst hE)
    | (have hE2 : to_ = E := by
         rw [← hE]
         cases m with
         | zero => rfl
         | succ m => simp only [rnT]; rw [if_neg (by omega)]
       subst hE2)
    refine j_iload d_Tap_endOf_74 rfl ?_
    exact z_iret rfl d_Tap_endOf_76 (by first | rfl | omega | simp_all) hQ
  · have hrt := hby to_ (by omega) (by omega)
    obtain ⟨m, rfl⟩ : ∃ j, m = j + 1 := ⟨m - 1, by omega⟩
    simp only [rnT] at hE
    refine j_iload_n d_Tap_endOf_34 rfl ?_
    refine z_if_eq (t := 51) d_Tap_endOf_35 (by decide) (by first | omega | exact hw _ | exact hx _ _ | assumption) (fun h => absurd h (by decide)) (fun _ => ?_)
    refine j_aload_n d_Tap_endOf_38 rfl ?_
    refine gf_TP_0_0 f_Tap_9 d_Tap_endOf_39 ?_
    refine j_iload d_Tap_endOf_42 rfl ?_
    refine al_TP_1 d_Tap_endOf_44 (by omega) (by omega) ?_
    refine s_call1 d_Tap_endOf_45 c_Tap_51 (Nat.le_of_ble_eq_true rfl) (t_Tap_isLetter (by first | omega | exact hw _ | exact hx _ _ | assumption) (fun h45 => ?_) (fun h45 => ?_))
    · refine z_if_ne (t := 68) d_Tap_endOf_48 (by decide) (by first | omega | exact hw _ | exact hx _ _ | assumption) (fun _ => ?_) (fun h => absurd h (by decide))
      refine z_iinc d_Tap_endOf_68 rfl (by decide) ?_
      show SJ _ _ _ _ [_, _, _, _, _] _ _ _ _ _
      refine j_goto (t := 25) d_Tap_endOf_71 (by decide) ?_
      rw [if_pos (by omega)] at hE
      exact ih _ (by omega) _ _ rfl (by omega) (by omega) (by omega) hE
    · refine z_if_ne (t := 68) d_Tap_endOf_48 (by decide) (by first | omega | exact hw _ | exact hx _ _ | assumption) (fun h => absurd h (by decide)) (fun _ => ?_)
      refine j_iload_n d_Tap_endOf_51 rfl ?_
      refine z_if_eq (t := 74) d_Tap_endOf_52 (by decide) (by first | omega | exact hw _ | exact hx _ _ | assumption) (fun _ => ?_) (fun h => absurd h (by decide))
      first
      | (rw [if_neg (by omega)] at hE
         subst hE)
      | (have hE2 : to_ = E := by
           rw [← hE]
           cases m with
           | zero => rfl
           | succ m => simp only [rnT]; rw [if_neg (by omega)]
         subst hE2)
      refine j_iload d_Tap_endOf_74 rfl ?_
      exact z_iret rfl d_Tap_endOf_76 (by first | rfl | omega | simp_all) hQ
set_option maxHeartbeats 400000 in
theorem lp_endOfD {g : Bool} {d : Nat} {Q : List xM → Option Value → Prop} {pz pn : Int} {by_ tk ps pv pw : Int → Int} (hby : ∀ j, 0 ≤ j → j < 400 → 0 ≤ by_ j ∧ by_ j ≤ 255) (z0_ : 0 ≤ pz) (z1_ : pz ≤ 400) {k E : Int} (hQ : Q (W_TP pz pn by_ tk ps pv pw) (some (.int (ii E)))) : ∀ (nn : Nat) (m : Nat) (to_ : Int), ((m : Int)).toNat = nn → 0 ≤ to_ → to_ ≤ pz → pz - to_ ≤ (m : Int) → rnT by_ isDg pz m to_ = E → SJ g m_Tap_endOf (d + 1) 25 [some (.ref 0), some (.int (ii k)), some (.int (ii 0)), some (.int (ii 1)), some (.int (ii (to_)))] [] (W_TP pz pn by_ tk ps pv pw) 0 0 Q := by
  intro nn
  induction nn using Nat.strongRecOn with
  | ind nn ih =>
  intro m to_ hn t0 t1 hm hE
  refine j_iload d_Tap_endOf_25 rfl ?_
  refine j_aload_n d_Tap_endOf_27 rfl ?_
  refine gf_TP_0_1 f_Tap_15 d_Tap_endOf_28 ?_
  refine z_icmp_ge (t := 74) d_Tap_endOf_31 (by decide) (by first | omega | exact hw _ | exact hx _ _ | assumption) (by first | omega | exact hw _ | exact hx _ _ | assumption) (fun h31 => ?_) (fun h31 => ?_)
  · first
    | (rw [if_neg (by omega)] at hE
       subst hE)
    | (have hE2 : to_ = E := by
         rw [← hE]
         cases m with
         | zero => rfl
         | succ m => simp only [rnT]; rw [if_neg (by omega)]
       subst hE2)
    refine j_iload d_Tap_endOf_74 rfl ?_
    exact z_iret rfl d_Tap_endOf_76 (by first | rfl | omega | simp_all) hQ
  · have hrt := hby to_ (by omega) (by omega)
    obtain ⟨m, rfl⟩ : ∃ j, m = j + 1 := ⟨m - 1, by omega⟩
    simp only [rnT] at hE
    refine j_iload_n d_Tap_endOf_34 rfl ?_
    refine z_if_eq (t := 51) d_Tap_endOf_35 (by decide) (by first | omega | exact hw _ | exact hx _ _ | assumption) (fun _ => ?_) (fun h => absurd h (by decide))
    refine j_iload_n d_Tap_endOf_51 rfl ?_
    refine z_if_eq (t := 74) d_Tap_endOf_52 (by decide) (by first | omega | exact hw _ | exact hx _ _ | assumption) (fun h => absurd h (by decide)) (fun _ => ?_)
    refine j_aload_n d_Tap_endOf_55 rfl ?_
    refine gf_TP_0_0 f_Tap_9 d_Tap_endOf_56 ?_
    refine j_iload d_Tap_endOf_59 rfl ?_
    refine al_TP_1 d_Tap_endOf_61 (by omega) (by omega) ?_
    refine s_call1 d_Tap_endOf_62 c_Tap_55 (Nat.le_of_ble_eq_true rfl) (t_Tap_isDigit (by first | omega | exact hw _ | exact hx _ _ | assumption) (fun h62 => ?_) (fun h62 => ?_))
    · refine z_if_eq (t := 74) d_Tap_endOf_65 (by decide) (by first | omega | exact hw _ | exact hx _ _ | assumption) (fun h => absurd h (by decide)) (fun _ => ?_)
      refine z_iinc d_Tap_endOf_68 rfl (by decide) ?_
      show SJ _ _ _ _ [_, _, _, _, _] _ _ _ _ _
      refine j_goto (t := 25) d_Tap_endOf_71 (by decide) ?_
      rw [if_pos (by omega)] at hE
      exact ih _ (by omega) _ _ rfl (by omega) (by omega) (by omega) hE
    · refine z_if_eq (t := 74) d_Tap_endOf_65 (by decide) (by first | omega | exact hw _ | exact hx _ _ | assumption) (fun _ => ?_) (fun h => absurd h (by decide))
      first
      | (rw [if_neg (by omega)] at hE
         subst hE)
      | (have hE2 : to_ = E := by
           rw [← hE]
           cases m with
           | zero => rfl
           | succ m => simp only [rnT]; rw [if_neg (by omega)]
         subst hE2)
      refine j_iload d_Tap_endOf_74 rfl ?_
      exact z_iret rfl d_Tap_endOf_76 (by first | rfl | omega | simp_all) hQ
set_option maxHeartbeats 400000 in
theorem t_Tap_endOf {g : Bool} {d : Nat} {Q : List xM → Option Value → Prop} {pz pn : Int} {by_ tk ps pv pw : Int → Int} (hby : ∀ j, 0 ≤ j → j < 400 → 0 ≤ by_ j ∧ by_ j ≤ 255) (z0_ : 0 ≤ pz) (z1_ : pz ≤ 400) {k : Int} (k0 : 0 ≤ k) (k1 : k < pz) (hQ : Q (W_TP pz pn by_ tk ps pv pw) (some (.int (ii ((enT by_ pz k)))))) : CT g m_Tap_endOf (d + 1) [.ref 0, .int (ii k)] (W_TP pz pn by_ tk ps pv pw) 0 0 Q := by
  refine CT.of (by decide) (Nat.le_of_ble_eq_true rfl) ?_
  show SJ _ _ _ _ [some (.ref 0), some (.int (ii k)), none, none, none] [] _ _ _ _
  have hrt := hby k (by omega) (by omega)
  generalize hE : enT by_ pz k = E at hQ
  unfold enT at hE
  refine j_aload_n d_Tap_endOf_0 rfl ?_
  refine gf_TP_0_0 f_Tap_9 d_Tap_endOf_1 ?_
  refine j_iload_n d_Tap_endOf_4 rfl ?_
  refine al_TP_1 d_Tap_endOf_5 (by omega) (by omega) ?_
  refine s_call1 d_Tap_endOf_6 c_Tap_51 (Nat.le_of_ble_eq_true rfl) (t_Tap_isLetter (by first | omega | exact hw _ | exact hx _ _ | assumption) (fun h6 => ?_) (fun h6 => ?_))
  · refine j_istore_n d_Tap_endOf_9 (by decide) ?_
    show SJ _ _ _ _ [_, _, _, _, _] _ _ _ _ _
    refine j_aload_n d_Tap_endOf_10 rfl ?_
    refine gf_TP_0_0 f_Tap_9 d_Tap_endOf_11 ?_
    refine j_iload_n d_Tap_endOf_14 rfl ?_
    refine al_TP_1 d_Tap_endOf_15 (by omega) (by omega) ?_
    refine s_call1 d_Tap_endOf_16 c_Tap_55 (Nat.le_of_ble_eq_true rfl) (t_Tap_isDigit (by first | omega | exact hw _ | exact hx _ _ | assumption) (fun h16 => ?_) (fun h16 => ?_))
    · refine j_istore_n d_Tap_endOf_19 (by decide) ?_
      show SJ _ _ _ _ [_, _, _, _, _] _ _ _ _ _
      refine j_iload_n d_Tap_endOf_20 rfl ?_
      refine z_iconst d_Tap_endOf_21 ?_
      refine z_iadd d_Tap_endOf_22 ?_
      refine j_istore d_Tap_endOf_23 (by decide) ?_
      show SJ _ _ _ _ [_, _, _, _, _] _ _ _ _ _
      exfalso; omega
    · refine j_istore_n d_Tap_endOf_19 (by decide) ?_
      show SJ _ _ _ _ [_, _, _, _, _] _ _ _ _ _
      refine j_iload_n d_Tap_endOf_20 rfl ?_
      refine z_iconst d_Tap_endOf_21 ?_
      refine z_iadd d_Tap_endOf_22 ?_
      refine j_istore d_Tap_endOf_23 (by decide) ?_
      show SJ _ _ _ _ [_, _, _, _, _] _ _ _ _ _
      rw [if_pos (by omega)] at hE
      exact lp_endOfS hby z0_ z1_ hQ _ _ (k + 1) rfl (by omega) (by omega) (by omega) hE
  · refine j_istore_n d_Tap_endOf_9 (by decide) ?_
    show SJ _ _ _ _ [_, _, _, _, _] _ _ _ _ _
    refine j_aload_n d_Tap_endOf_10 rfl ?_
    refine gf_TP_0_0 f_Tap_9 d_Tap_endOf_11 ?_
    refine j_iload_n d_Tap_endOf_14 rfl ?_
    refine al_TP_1 d_Tap_endOf_15 (by omega) (by omega) ?_
    refine s_call1 d_Tap_endOf_16 c_Tap_55 (Nat.le_of_ble_eq_true rfl) (t_Tap_isDigit (by first | omega | exact hw _ | exact hx _ _ | assumption) (fun h16 => ?_) (fun h16 => ?_))
    · refine j_istore_n d_Tap_endOf_19 (by decide) ?_
      show SJ _ _ _ _ [_, _, _, _, _] _ _ _ _ _
      refine j_iload_n d_Tap_endOf_20 rfl ?_
      refine z_iconst d_Tap_endOf_21 ?_
      refine z_iadd d_Tap_endOf_22 ?_
      refine j_istore d_Tap_endOf_23 (by decide) ?_
      show SJ _ _ _ _ [_, _, _, _, _] _ _ _ _ _
      rw [if_neg (by omega), if_pos (by omega)] at hE
      exact lp_endOfD hby z0_ z1_ hQ _ _ (k + 1) rfl (by omega) (by omega) (by omega) hE
    · refine j_istore_n d_Tap_endOf_19 (by decide) ?_
      show SJ _ _ _ _ [_, _, _, _, _] _ _ _ _ _
      refine j_iload_n d_Tap_endOf_20 rfl ?_
      refine z_iconst d_Tap_endOf_21 ?_
      refine z_iadd d_Tap_endOf_22 ?_
      refine j_istore d_Tap_endOf_23 (by decide) ?_
      show SJ _ _ _ _ [_, _, _, _, _] _ _ _ _ _
      refine j_iload d_Tap_endOf_25 rfl ?_
      rw [if_neg (by omega), if_neg (by omega)] at hE
      subst hE
      refine j_aload_n d_Tap_endOf_27 rfl ?_
      refine gf_TP_0_1 f_Tap_15 d_Tap_endOf_28 ?_
      refine z_icmp_ge (t := 74) d_Tap_endOf_31 (by decide) (by first | omega | exact hw _ | exact hx _ _ | assumption) (by first | omega | exact hw _ | exact hx _ _ | assumption) (fun h31 => ?_) (fun h31 => ?_)
      · refine j_iload d_Tap_endOf_74 rfl ?_
        exact z_iret rfl d_Tap_endOf_76 (by first | rfl | omega | simp_all) hQ
      · refine j_iload_n d_Tap_endOf_34 rfl ?_
        refine z_if_eq (t := 51) d_Tap_endOf_35 (by decide) (by first | omega | exact hw _ | exact hx _ _ | assumption) (fun _ => ?_) (fun h => absurd h (by decide))
        refine j_iload_n d_Tap_endOf_51 rfl ?_
        refine z_if_eq (t := 74) d_Tap_endOf_52 (by decide) (by first | omega | exact hw _ | exact hx _ _ | assumption) (fun _ => ?_) (fun h => absurd h (by decide))
        refine j_iload d_Tap_endOf_74 rfl ?_
        exact z_iret rfl d_Tap_endOf_76 (by first | rfl | omega | simp_all) hQ
set_option maxHeartbeats 400000 in
theorem lp_numberOf {g : Bool} {d : Nat} {Q : List xM → Option Value → Prop} {pz pn : Int} {by_ tk ps pv pw : Int → Int} (hby : ∀ j, 0 ≤ j → j < 400 → 0 ≤ by_ j ∧ by_ j ≤ 255) {f e : Int} (f0 : 0 ≤ f) (e1 : e ≤ 400) (hdg : ∀ j, f ≤ j → j < e → isDg (by_ j)) {R : Int} (hQ : Q (W_TP pz pn by_ tk ps pv pw) (some (.int (ii R)))) : ∀ (nn : Nat) (q : Int) (v : Int), (e - q).toNat = nn → f ≤ q → q ≤ e → 0 ≤ v → v ≤ 1001 → nmC by_ (e - q).toNat q v = R → SJ g m_Tap_numberOf (d + 1) 5 [some (.ref 0), some (.int (ii f)), some (.int (ii e)), some (.int (ii v)), some (.int (ii q))] [] (W_TP pz pn by_ tk ps pv pw) 0 0 Q := by
  intro nn
  induction nn using Nat.strongRecOn with
  | ind nn ih =>
  intro q v hn q0 q1 v0 v1 hR
  refine j_iload d_Tap_numberOf_5 rfl ?_
  refine j_iload_n d_Tap_numberOf_7 rfl ?_
  refine z_icmp_ge (t := 39) d_Tap_numberOf_8 (by decide) (by first | omega | exact hw _ | exact hx _ _ | assumption) (by first | omega | exact hw _ | exact hx _ _ | assumption) (fun h8 => ?_) (fun h8 => ?_)
  · rw [show (e - q).toNat = 0 by omega] at hR
    have hR2 : v = R := hR
    subst hR2
    refine j_iload_n d_Tap_numberOf_39 rfl ?_
    exact z_iret rfl d_Tap_numberOf_40 (by first | rfl | omega | simp_all) hQ
  · have hd1 := hdg q (by omega) (by omega)
    rw [show (e - q).toNat = (e - (q + 1)).toNat + 1 by omega] at hR
    simp only [nmC] at hR
    refine z_sipush d_Tap_numberOf_11 (by decide) ?_
    refine j_iload_n d_Tap_numberOf_14 rfl ?_
    refine z_bipush d_Tap_numberOf_15 (by decide) ?_
    refine z_imul d_Tap_numberOf_17 ?_
    refine j_aload_n d_Tap_numberOf_18 rfl ?_
    refine gf_TP_0_0 f_Tap_9 d_Tap_numberOf_19 ?_
    refine j_iload d_Tap_numberOf_22 rfl ?_
    refine al_TP_1 d_Tap_numberOf_24 (by omega) (by omega) ?_
    refine z_iadd d_Tap_numberOf_25 ?_
    refine z_bipush d_Tap_numberOf_26 (by decide) ?_
    refine z_isub d_Tap_numberOf_28 ?_
    refine z_min d_Tap_numberOf_29 mm_Tap_65 (Nat.le_of_ble_eq_true rfl) (by first | omega | exact hw _ | exact hx _ _ | assumption) (by first | omega | exact hw _ | exact hx _ _ | assumption) ?_
    refine j_istore_n d_Tap_numberOf_32 (by decide) ?_
    show SJ _ _ _ _ [_, _, _, _, _] _ _ _ _ _
    refine z_iinc d_Tap_numberOf_33 rfl (by decide) ?_
    show SJ _ _ _ _ [_, _, _, _, _] _ _ _ _ _
    refine j_goto (t := 5) d_Tap_numberOf_36 (by decide) ?_
    exact ih _ (by omega) _ _ rfl (by omega) (by omega) (by omega) (by omega) hR
set_option maxHeartbeats 400000 in
theorem t_Tap_numberOf {g : Bool} {d : Nat} {Q : List xM → Option Value → Prop} {pz pn : Int} {by_ tk ps pv pw : Int → Int} (hby : ∀ j, 0 ≤ j → j < 400 → 0 ≤ by_ j ∧ by_ j ≤ 255) {f e : Int} (f0 : 0 ≤ f) (f1 : f ≤ e) (e1 : e ≤ 400) (hdg : ∀ j, f ≤ j → j < e → isDg (by_ j)) (hQ : Q (W_TP pz pn by_ tk ps pv pw) (some (.int (ii ((min 1001 (nmT by_ (e - f).toNat f 0))))))) : CT g m_Tap_numberOf (d + 1) [.ref 0, .int (ii f), .int (ii e)] (W_TP pz pn by_ tk ps pv pw) 0 0 Q := by
  refine CT.of (by decide) (Nat.le_of_ble_eq_true rfl) ?_
  show SJ _ _ _ _ [some (.ref 0), some (.int (ii f)), some (.int (ii e)), none, none] [] _ _ _ _
  refine z_iconst d_Tap_numberOf_0 ?_
  refine j_istore_n d_Tap_numberOf_1 (by decide) ?_
  show SJ _ _ _ _ [_, _, _, _, _] _ _ _ _ _
  refine j_iload_n d_Tap_numberOf_2 rfl ?_
  refine j_istore d_Tap_numberOf_3 (by decide) ?_
  show SJ _ _ _ _ [_, _, _, _, _] _ _ _ _ _
  rw [← nmC_T (t := by_) (e - f).toNat f 0 (fun i a b => hdg i a (by omega)) (by omega)] at hQ
  exact lp_numberOf hby f0 e1 hdg hQ _ f 0 rfl (by omega) f1 (by omega) (by omega) (by rw [show min (1001 : Int) 0 = 0 by decide])
set_option maxHeartbeats 400000 in
theorem lp_hasWord {g : Bool} {d : Nat} {Q : List xM → Option Value → Prop} {pz pn : Int} {by_ tk ps pv pw : Int → Int} (hby : ∀ j, 0 ≤ j → j < 400 → 0 ≤ by_ j ∧ by_ j ≤ 255) (hrw : ∀ j, 0 ≤ j → j < 137 → 0 ≤ pw j ∧ pw j ≤ 255) {a f ln : Int} (a0 : 0 ≤ a) (a1 : a + ln ≤ 137) (f0 : 0 ≤ f) (f1 : f + ln ≤ 400) (ht : (∀ j, 0 ≤ j → j < ln → pw (a + j) = by_ (f + j)) → Q (W_TP pz pn by_ tk ps pv pw) (some (.int (ii 1)))) (hf : ¬ ((∀ j, 0 ≤ j → j < ln → pw (a + j) = by_ (f + j))) → Q (W_TP pz pn by_ tk ps pv pw) (some (.int (ii 0)))) : ∀ (nn : Nat) (q : Int), (ln - q).toNat = nn → 0 ≤ q → q ≤ ln → Hd (∀ j, 0 ≤ j → j < q → pw (a + j) = by_ (f + j)) → SJ g m_Tap_hasWord d 3 [some (.ref 0), some (.int (ii a)), some (.int (ii f)), some (.int (ii ln)), some (.int (ii q))] [] (W_TP pz pn by_ tk ps pv pw) 0 0 Q := by
  intro nn
  induction nn using Nat.strongRecOn with
  | ind nn ih =>
  intro q hn q0 q1 hq
  refine j_iload d_Tap_hasWord_3 rfl ?_
  refine j_iload_n d_Tap_hasWord_5 rfl ?_
  refine z_icmp_ge (t := 38) d_Tap_hasWord_6 (by decide) (by first | omega | exact hw _ | exact hx _ _ | assumption) (by first | omega | exact hw _ | exact hx _ _ | assumption) (fun h6 => ?_) (fun h6 => ?_)
  · refine z_iconst d_Tap_hasWord_38 ?_
    exact z_zreturn rfl (Or.inr rfl) d_Tap_hasWord_39 (ht (fun j j0 j1 => Hd.out hq j j0 (by omega)))
  · have hr1 := hrw (a + q) (by omega) (by omega)
    have hr2 := hby (f + q) (by omega) (by omega)
    refine j_aload_n d_Tap_hasWord_9 rfl ?_
    refine gf_TP_0_6 f_Tap_39 d_Tap_hasWord_10 ?_
    refine j_iload_n d_Tap_hasWord_13 rfl ?_
    refine j_iload d_Tap_hasWord_14 rfl ?_
    refine z_iadd d_Tap_hasWord_16 ?_
    refine al_TP_5 d_Tap_hasWord_17 (by omega) (by omega) ?_
    refine j_aload_n d_Tap_hasWord_18 rfl ?_
    refine gf_TP_0_0 f_Tap_9 d_Tap_hasWord_19 ?_
    refine j_iload_n d_Tap_hasWord_22 rfl ?_
    refine j_iload d_Tap_hasWord_23 rfl ?_
    refine z_iadd d_Tap_hasWord_25 ?_
    refine al_TP_1 d_Tap_hasWord_26 (by omega) (by omega) ?_
    refine z_icmp_eq (t := 32) d_Tap_hasWord_27 (by decide) (by first | omega | exact hw _ | exact hx _ _ | assumption) (by first | omega | exact hw _ | exact hx _ _ | assumption) (fun h27 => ?_) (fun h27 => ?_)
    · refine z_iinc d_Tap_hasWord_32 rfl (by decide) ?_
      show SJ _ _ _ _ [_, _, _, _, _] _ _ _ _ _
      refine j_goto (t := 3) d_Tap_hasWord_35 (by decide) ?_
      refine ih _ (by omega) _ rfl (by omega) (by omega) (fun j j0 j1 => ?_)
      by_cases e : j = q
      · rw [e]; omega
      · exact Hd.out hq j j0 (by omega)
    · refine z_iconst d_Tap_hasWord_30 ?_
      exact z_zreturn rfl (Or.inl rfl) d_Tap_hasWord_31 (hf (fun z => absurd (z q (by omega) (by omega)) (by omega)))
set_option maxHeartbeats 400000 in
theorem t_Tap_hasWord {g : Bool} {d : Nat} {Q : List xM → Option Value → Prop} {pz pn : Int} {by_ tk ps pv pw : Int → Int} (hby : ∀ j, 0 ≤ j → j < 400 → 0 ≤ by_ j ∧ by_ j ≤ 255) (hrw : ∀ j, 0 ≤ j → j < 137 → 0 ≤ pw j ∧ pw j ≤ 255) {a f ln : Int} (a0 : 0 ≤ a) (l0 : 0 ≤ ln) (a1 : a + ln ≤ 137) (f0 : 0 ≤ f) (f1 : f + ln ≤ 400) (ht : (∀ j, 0 ≤ j → j < ln → pw (a + j) = by_ (f + j)) → Q (W_TP pz pn by_ tk ps pv pw) (some (.int (ii 1)))) (hf : ¬ ((∀ j, 0 ≤ j → j < ln → pw (a + j) = by_ (f + j))) → Q (W_TP pz pn by_ tk ps pv pw) (some (.int (ii 0)))) : CT g m_Tap_hasWord d [.ref 0, .int (ii a), .int (ii f), .int (ii ln)] (W_TP pz pn by_ tk ps pv pw) 0 0 Q := by
  refine CT.of (by decide) (Nat.le_of_ble_eq_true rfl) ?_
  show SJ _ _ _ _ [some (.ref 0), some (.int (ii a)), some (.int (ii f)), some (.int (ii ln)), none] [] _ _ _ _
  refine z_iconst d_Tap_hasWord_0 ?_
  refine j_istore d_Tap_hasWord_1 (by decide) ?_
  show SJ _ _ _ _ [_, _, _, _, _] _ _ _ _ _
  exact lp_hasWord hby hrw a0 a1 f0 f1 ht hf _ 0 rfl (by omega) (by omega) (fun j j0 j1 => by omega)
set_option maxHeartbeats 400000 in
theorem lp_wordOfC {g : Bool} {d : Nat} {Q : List xM → Option Value → Prop} {pz pn : Int} {by_ tk ps pv pw : Int → Int} {ff ee : Int} (hby : ∀ j, 0 ≤ j → j < 400 → 0 ≤ by_ j ∧ by_ j ≤ 255) (hpw : ∀ j, 0 ≤ j → j < 137 → pw j = ofL TB j) (hrw : ∀ j, 0 ≤ j → j < 137 → 0 ≤ pw j ∧ pw j ≤ 255) (f0 : 0 ≤ ff) (e0 : ff ≤ ee) (e1 : ee ≤ 400) {R : Int} (hQ : Q (W_TP pz pn by_ tk ps pv pw) (some (.int (ii R)))) : ∀ (nn : Nat) (k : Nat) (q : Int) (wn : Int) (ws : List (List Int)), (137 - q).toNat = nn → (k : Int) ≤ q → q ≤ 137 → tbl TB k ws = true → Hd (∀ j, (k : Int) ≤ j → j < q → pw j ≠ 32) → fnd (isW by_ ff ee) 300 wn ws = R → k ≤ 137 → SJ g m_Tap_wordOf (d + 1) 10 [some (.ref 0), some (.int (ii ff)), some (.int (ii ee)), some (.int (ii wn)), some (.int (ii ((k : Int)))), some (.int (ii q))] [] (W_TP pz pn by_ tk ps pv pw) 0 0 Q := by
  intro nn
  induction nn using Nat.strongRecOn with
  | ind nn ih =>
  intro k q wn ws hn q0 q1 hT hin hR hk1
  have hTA : TB.length = 137 := rfl
  refine j_iload d_Tap_wordOf_10 rfl ?_
  refine j_aload_n d_Tap_wordOf_12 rfl ?_
  refine gf_TP_0_6 f_Tap_39 d_Tap_wordOf_13 ?_
  refine j_alen d_Tap_wordOf_16 rfl (by decide) (show Int32.ofNat 137 = ii 137 by decide) ?_
  refine z_icmp_ge (t := 73) d_Tap_wordOf_17 (by decide) (by first | omega | exact hw _ | exact hx _ _ | assumption) (by first | omega | exact hw _ | exact hx _ _ | assumption) (fun h17 => ?_) (fun h17 => ?_)
  · have hnil : ws = [] := by
      cases ws with
      | nil => rfl
      | cons a b =>
        obtain ⟨ha, hb_, hc, hT2⟩ := tbl_cons hT
        have z := Hd.out hin ((k : Int) + (a.length : Int)) (by omega) (by omega)
        rw [hpw _ (by omega) (by omega)] at z
        exact absurd hb_ z
    rw [hnil] at hR
    have hR2 : (300 : Int) = R := hR
    subst hR2
    refine z_sipush d_Tap_wordOf_73 (by decide) ?_
    exact z_iret rfl d_Tap_wordOf_76 (by first | rfl | omega | simp_all) hQ
  · have hk2 : k < 137 := by omega
    obtain ⟨w0, ws, rfl⟩ : ∃ a b, ws = a :: b := by
      cases ws with
      | nil => exact absurd (tbl_nil hT) (by omega)
      | cons a b => exact ⟨a, b, rfl⟩
    obtain ⟨ha, hb_, hc, hT2⟩ := tbl_cons hT
    obtain ⟨ln, hln⟩ : ∃ ln : Int, ln = (w0.length : Int) := ⟨_, rfl⟩
    rw [← hln] at hb_
    simp only [fnd] at hR
    have hisW : isW by_ ff ee w0 = true ↔ (ln = ee - ff ∧ ∀ j, 0 ≤ j → j < ln → pw ((k : Int) + j) = by_ (ff + j)) := by
      unfold isW
      rw [Bool.and_eq_true, decide_eq_true_eq, eqT_N]
      constructor
      · rintro ⟨z1, z2⟩
        refine ⟨by omega, fun j j0 j1 => ?_⟩
        have z3 := z2 j.toNat (by omega)
        have z4 := (ha j.toNat (by omega)).1
        rw [Int.toNat_of_nonneg j0] at z3 z4
        rw [hpw _ (by omega) (by omega), z4, z3]
      · rintro ⟨z1, z2⟩
        refine ⟨by omega, fun i hi => ?_⟩
        rw [← (ha i hi).1, ← hpw _ (by omega) (by omega)]
        exact z2 i (by omega) (by omega)
    have hqr := hrw q (by omega) (by omega)
    refine j_aload_n d_Tap_wordOf_20 rfl ?_
    refine gf_TP_0_6 f_Tap_39 d_Tap_wordOf_21 ?_
    refine j_iload d_Tap_wordOf_24 rfl ?_
    refine al_TP_5 d_Tap_wordOf_26 (by omega) (by omega) ?_
    refine z_bipush d_Tap_wordOf_27 (by decide) ?_
    refine z_icmp_ne (t := 67) d_Tap_wordOf_29 (by decide) (by first | omega | exact hw _ | exact hx _ _ | assumption) (by first | omega | exact hw _ | exact hx _ _ | assumption) (fun h29 => ?_) (fun h29 => ?_)
    · refine z_iinc d_Tap_wordOf_67 rfl (by decide) ?_
      show SJ _ _ _ _ [_, _, _, _, _, _] _ _ _ _ _
      refine j_goto (t := 10) d_Tap_wordOf_70 (by decide) ?_
      first
      | (rw [show q + 1 = ((k + w0.length + 1 : Nat) : Int) by omega]
         exact ih _ (by omega) (k + w0.length + 1) _ _ ws rfl (by omega) (by omega) hT2 (fun j j0 j1 => by omega) hR (by omega))
      | (refine ih _ (by omega) k _ _ (w0 :: ws) rfl (by omega) (by omega) hT (fun j j0 j1 => ?_) (by simp only [fnd]; exact hR) (by omega)
         by_cases e : j = q
         · rw [e]; omega
         · exact Hd.out hin j j0 (by omega))
    · have hql : q = (k : Int) + ln := by
        by_cases c1 : q < (k : Int) + ln
        · have z := (ha (q - k).toNat (by omega)).2
          rw [show (k : Int) + ((q - k).toNat : Int) = q by omega, ← hpw q (by omega) (by omega)] at z
          exact absurd h29 z
        · by_cases c2 : (k : Int) + ln < q
          · have z := Hd.out hin ((k : Int) + ln) (by omega) c2
            rw [hpw _ (by omega) (by omega)] at z
            exact absurd hb_ z
          · omega
      refine j_iload d_Tap_wordOf_32 rfl ?_
      refine j_iload d_Tap_wordOf_34 rfl ?_
      refine z_isub d_Tap_wordOf_36 ?_
      refine j_iload_n d_Tap_wordOf_37 rfl ?_
      refine j_iload_n d_Tap_wordOf_38 rfl ?_
      refine z_isub d_Tap_wordOf_39 ?_
      refine z_icmp_ne (t := 58) d_Tap_wordOf_40 (by decide) (by first | omega | exact hw _ | exact hx _ _ | assumption) (by first | omega | exact hw _ | exact hx _ _ | assumption) (fun h40 => ?_) (fun h40 => ?_)
      · first
        | (rw [if_neg (fun z => h50 (fun j j0 j1 => (hisW.mp z).2 j j0 (by omega)))] at hR)
        | (rw [if_neg (fun z => h40 (by have := (hisW.mp z).1; omega))] at hR)
        refine z_iinc d_Tap_wordOf_58 rfl (by decide) ?_
        show SJ _ _ _ _ [_, _, _, _, _, _] _ _ _ _ _
        refine j_iload d_Tap_wordOf_61 rfl ?_
        refine z_iconst d_Tap_wordOf_63 ?_
        refine z_iadd d_Tap_wordOf_64 ?_
        refine j_istore d_Tap_wordOf_65 (by decide) ?_
        show SJ _ _ _ _ [_, _, _, _, _, _] _ _ _ _ _
        refine z_iinc d_Tap_wordOf_67 rfl (by decide) ?_
        show SJ _ _ _ _ [_, _, _, _, _, _] _ _ _ _ _
        refine j_goto (t := 10) d_Tap_wordOf_70 (by decide) ?_
        first
        | (rw [show q + 1 = ((k + w0.length + 1 : Nat) : Int) by omega]
           exact ih _ (by omega) (k + w0.length + 1) _ _ ws rfl (by omega) (by omega) hT2 (fun j j0 j1 => by omega) hR (by omega))
        | (refine ih _ (by omega) k _ _ (w0 :: ws) rfl (by omega) (by omega) hT (fun j j0 j1 => ?_) (by simp only [fnd]; exact hR) (by omega)
           by_cases e : j = q
           · rw [e]; omega
           · exact Hd.out hin j j0 (by omega))
      · refine j_aload_n d_Tap_wordOf_43 rfl ?_
        refine j_iload d_Tap_wordOf_44 rfl ?_
        refine j_iload_n d_Tap_wordOf_46 rfl ?_
        refine j_iload_n d_Tap_wordOf_47 rfl ?_
        refine j_iload_n d_Tap_wordOf_48 rfl ?_
        refine z_isub d_Tap_wordOf_49 ?_
        refine v_call3 d_Tap_wordOf_50 c_Tap_70 rfl ⟨_, rfl, rfl⟩ (Nat.le_of_ble_eq_true rfl) (t_Tap_hasWord hby hrw (by omega) (by omega) (by omega) (by omega) (by omega) (fun h50 => ?_) (fun h50 => ?_))
        · refine z_if_eq (t := 58) d_Tap_wordOf_53 (by decide) (by first | omega | exact hw _ | exact hx _ _ | assumption) (fun h => absurd h (by decide)) (fun _ => ?_)
          rw [if_pos (hisW.mpr ⟨by omega, fun j j0 j1 => h50 j j0 (by omega)⟩)] at hR
          subst hR
          refine j_iload_n d_Tap_wordOf_56 rfl ?_
          exact z_iret rfl d_Tap_wordOf_57 (by first | rfl | omega | simp_all) hQ
        · refine z_if_eq (t := 58) d_Tap_wordOf_53 (by decide) (by first | omega | exact hw _ | exact hx _ _ | assumption) (fun _ => ?_) (fun h => absurd h (by decide))
          first
          | (rw [if_neg (fun z => h50 (fun j j0 j1 => (hisW.mp z).2 j j0 (by omega)))] at hR)
          | (rw [if_neg (fun z => h40 (by have := (hisW.mp z).1; omega))] at hR)
          refine z_iinc d_Tap_wordOf_58 rfl (by decide) ?_
          show SJ _ _ _ _ [_, _, _, _, _, _] _ _ _ _ _
          refine j_iload d_Tap_wordOf_61 rfl ?_
          refine z_iconst d_Tap_wordOf_63 ?_
          refine z_iadd d_Tap_wordOf_64 ?_
          refine j_istore d_Tap_wordOf_65 (by decide) ?_
          show SJ _ _ _ _ [_, _, _, _, _, _] _ _ _ _ _
          refine z_iinc d_Tap_wordOf_67 rfl (by decide) ?_
          show SJ _ _ _ _ [_, _, _, _, _, _] _ _ _ _ _
          refine j_goto (t := 10) d_Tap_wordOf_70 (by decide) ?_
          first
          | (rw [show q + 1 = ((k + w0.length + 1 : Nat) : Int) by omega]
             exact ih _ (by omega) (k + w0.length + 1) _ _ ws rfl (by omega) (by omega) hT2 (fun j j0 j1 => by omega) hR (by omega))
          | (refine ih _ (by omega) k _ _ (w0 :: ws) rfl (by omega) (by omega) hT (fun j j0 j1 => ?_) (by simp only [fnd]; exact hR) (by omega)
             by_cases e : j = q
             · rw [e]; omega
             · exact Hd.out hin j j0 (by omega))
set_option maxHeartbeats 400000 in
theorem t_Tap_wordOf {g : Bool} {d : Nat} {Q : List xM → Option Value → Prop} {pz pn : Int} {by_ tk ps pv pw : Int → Int} {ff ee : Int} (hby : ∀ j, 0 ≤ j → j < 400 → 0 ≤ by_ j ∧ by_ j ≤ 255) (hpw : ∀ j, 0 ≤ j → j < 137 → pw j = ofL TB j) (f0 : 0 ≤ ff) (e0 : ff ≤ ee) (e1 : ee ≤ 400) (hQ : Q (W_TP pz pn by_ tk ps pv pw) (some (.int (ii ((fnd (isW by_ ff ee) 300 256 WB)))))) : CT g m_Tap_wordOf (d + 1) [.ref 0, .int (ii ff), .int (ii ee)] (W_TP pz pn by_ tk ps pv pw) 0 0 Q := by
  refine CT.of (by decide) (Nat.le_of_ble_eq_true rfl) ?_
  show SJ _ _ _ _ [some (.ref 0), some (.int (ii ff)), some (.int (ii ee)), none, none, none] [] _ _ _ _
  have hrw : ∀ j, 0 ≤ j → j < 137 → 0 ≤ pw j ∧ pw j ≤ 255 := fun j j0 j1 => by
    rw [hpw j j0 j1]
    have key : ∀ z : Fin 137, 0 ≤ ofL TB ((z : Nat) : Int) ∧ ofL TB ((z : Nat) : Int) ≤ 255 := by decide +kernel
    have := key ⟨j.toNat, by omega⟩
    rw [show (((⟨j.toNat, by omega⟩ : Fin 137) : Nat) : Int) = j from Int.toNat_of_nonneg j0] at this
    exact this
  refine z_sipush d_Tap_wordOf_0 (by decide) ?_
  refine j_istore_n d_Tap_wordOf_3 (by decide) ?_
  show SJ _ _ _ _ [_, _, _, _, _, _] _ _ _ _ _
  refine z_iconst d_Tap_wordOf_4 ?_
  refine j_istore d_Tap_wordOf_5 (by decide) ?_
  show SJ _ _ _ _ [_, _, _, _, _, _] _ _ _ _ _
  refine z_iconst d_Tap_wordOf_7 ?_
  refine j_istore d_Tap_wordOf_8 (by decide) ?_
  show SJ _ _ _ _ [_, _, _, _, _, _] _ _ _ _ _
  exact lp_wordOfC hby hpw hrw f0 e0 e1 hQ _ 0 0 256 WB rfl (by omega) (by omega) tbl_B (fun j j0 j1 => by omega) rfl (by omega)
set_option maxHeartbeats 400000 in
theorem t_Tap_addToken {g : Bool} {d : Nat} {Q : List xM → Option Value → Prop} {pz pn : Int} {by_ tk ps pv pw : Int → Int} (hby : ∀ j, 0 ≤ j → j < 400 → 0 ≤ by_ j ∧ by_ j ≤ 255) (hpw : ∀ j, 0 ≤ j → j < 137 → pw j = ofL TB j) (z0_ : 0 ≤ pz) (z1_ : pz ≤ 400) (c0_ : 0 ≤ pn) (c1_ : pn ≤ 399) {k : Int} (k0 : 0 ≤ k) (k1 : k < pz) (hQ : ∀ pvz, (∀ j, 0 ≤ j → j < pn → pvz j = pv j) → (cdT by_ pz k = 50 → pvz pn = min 1001 (vlT by_ pz k)) → Q (W_TP pz (pn + 1) by_ (up tk pn (tkm (cdT by_ pz k))) (up ps pn k) pvz pw) none) : CT g m_Tap_addToken (d + 2) [.ref 0, .int (ii k), .int (ii (enT by_ pz k))] (W_TP pz pn by_ tk ps pv pw) 0 0 Q := by
  refine CT.of (by decide) (Nat.le_of_ble_eq_true rfl) ?_
  show SJ _ _ _ _ [some (.ref 0), some (.int (ii k)), some (.int (ii (enT by_ pz k)))] [] _ _ _ _
  have hrt := hby k (by omega) (by omega)
  have hen := enT_R (t := by_) k1
  refine j_aload_n d_Tap_addToken_0 rfl ?_
  refine gf_TP_0_3 f_Tap_22 d_Tap_addToken_1 ?_
  refine j_aload_n d_Tap_addToken_4 rfl ?_
  refine gf_TP_0_5 f_Tap_28 d_Tap_addToken_5 ?_
  refine j_iload_n d_Tap_addToken_8 rfl ?_
  refine as_TP_3 d_Tap_addToken_9 (by omega) (by omega) ?_
  refine j_aload_n d_Tap_addToken_10 rfl ?_
  refine gf_TP_0_0 f_Tap_9 d_Tap_addToken_11 ?_
  refine j_iload_n d_Tap_addToken_14 rfl ?_
  refine al_TP_1 d_Tap_addToken_15 (by omega) (by omega) ?_
  refine s_call1 d_Tap_addToken_16 c_Tap_55 (Nat.le_of_ble_eq_true rfl) (t_Tap_isDigit (by first | omega | exact hw _ | exact hx _ _ | assumption) (fun h16 => ?_) (fun h16 => ?_))
  · refine z_if_eq (t := 52) d_Tap_addToken_19 (by decide) (by first | omega | exact hw _ | exact hx _ _ | assumption) (fun h => absurd h (by decide)) (fun _ => ?_)
    refine j_aload_n d_Tap_addToken_22 rfl ?_
    refine gf_TP_0_2 f_Tap_19 d_Tap_addToken_23 ?_
    refine j_aload_n d_Tap_addToken_26 rfl ?_
    refine gf_TP_0_5 f_Tap_28 d_Tap_addToken_27 ?_
    refine z_sipush d_Tap_addToken_30 (by decide) ?_
    refine as_TP_2 d_Tap_addToken_33 (by omega) (by omega) ?_
    rw [show (301 : Int) = tkm (cdT by_ pz k) by rw [cdT_d (by omega)]; decide]
    refine j_aload_n d_Tap_addToken_34 rfl ?_
    refine gf_TP_0_4 f_Tap_25 d_Tap_addToken_35 ?_
    refine j_aload_n d_Tap_addToken_38 rfl ?_
    refine gf_TP_0_5 f_Tap_28 d_Tap_addToken_39 ?_
    refine j_aload_n d_Tap_addToken_42 rfl ?_
    refine j_iload_n d_Tap_addToken_43 rfl ?_
    refine j_iload_n d_Tap_addToken_44 rfl ?_
    refine v_call2 d_Tap_addToken_45 c_Tap_58 rfl ⟨_, rfl, rfl⟩ (Nat.le_of_ble_eq_true rfl) (t_Tap_numberOf hby (by omega) (by omega) (by omega) (enT_dg (size := pz) (by omega)) ?_)
    refine as_TP_4 d_Tap_addToken_48 (by omega) (by omega) ?_
    refine j_goto (t := 97) d_Tap_addToken_49 (by decide) ?_
    refine j_aload_n d_Tap_addToken_97 rfl ?_
    refine j_dup d_Tap_addToken_98 rfl ?_
    refine gf_TP_0_5 f_Tap_28 d_Tap_addToken_99 ?_
    refine z_iconst d_Tap_addToken_102 ?_
    refine z_iadd d_Tap_addToken_103 ?_
    refine pf_TP_0_5 f_Tap_28 d_Tap_addToken_104 ?_
    first
    | (have hdd : isDg (by_ k) := by omega
       refine j_return rfl d_Tap_addToken_107 (hQ _ (fun j j0 j1 => up_ne (by omega)) (fun _ => ?_))
       rw [up_eq]
       unfold vlT
       rw [if_pos hdd])
    | (have hdd : ¬ isDg (by_ k) := by omega
       have hss : isS (by_ k) := by omega
       refine j_return rfl d_Tap_addToken_107 (hQ _ (fun j j0 j1 => rfl) (fun z => ?_))
       exfalso
       unfold cdT at z
       rw [if_pos hss] at z
       have := fnd_R (m := isW by_ k (enT by_ pz k)) WA 1 (by omega)
       rw [show WA.length = 27 from rfl] at this
       omega)
    | (have hdd : ¬ isDg (by_ k) := by omega
       have hss : ¬ isS (by_ k) := by omega
       have hco := cdT_o (size := pz) hss hdd (by omega)
       have hQ2 := hQ _ (fun j j0 j1 => rfl) (fun z => by rw [hco] at z; omega)
       rw [hco, tkm_o (by omega)] at hQ2
       exact j_return rfl d_Tap_addToken_107 hQ2)
  · refine z_if_eq (t := 52) d_Tap_addToken_19 (by decide) (by first | omega | exact hw _ | exact hx _ _ | assumption) (fun _ => ?_) (fun h => absurd h (by decide))
    refine j_aload_n d_Tap_addToken_52 rfl ?_
    refine gf_TP_0_0 f_Tap_9 d_Tap_addToken_53 ?_
    refine j_iload_n d_Tap_addToken_56 rfl ?_
    refine al_TP_1 d_Tap_addToken_57 (by omega) (by omega) ?_
    refine s_call1 d_Tap_addToken_58 c_Tap_51 (Nat.le_of_ble_eq_true rfl) (t_Tap_isLetter (by first | omega | exact hw _ | exact hx _ _ | assumption) (fun h58 => ?_) (fun h58 => ?_))
    · refine z_if_eq (t := 82) d_Tap_addToken_61 (by decide) (by first | omega | exact hw _ | exact hx _ _ | assumption) (fun h => absurd h (by decide)) (fun _ => ?_)
      refine j_aload_n d_Tap_addToken_64 rfl ?_
      refine gf_TP_0_2 f_Tap_19 d_Tap_addToken_65 ?_
      refine j_aload_n d_Tap_addToken_68 rfl ?_
      refine gf_TP_0_5 f_Tap_28 d_Tap_addToken_69 ?_
      refine j_aload_n d_Tap_addToken_72 rfl ?_
      refine j_iload_n d_Tap_addToken_73 rfl ?_
      refine j_iload_n d_Tap_addToken_74 rfl ?_
      refine v_call2 d_Tap_addToken_75 c_Tap_62 rfl ⟨_, rfl, rfl⟩ (Nat.le_of_ble_eq_true rfl) (t_Tap_wordOf hby hpw (by omega) (by omega) (by omega) ?_)
      refine as_TP_2 d_Tap_addToken_78 (by omega) (by omega) ?_
      rw [← cdT_w (size := pz) (by omega)]
      refine j_goto (t := 97) d_Tap_addToken_79 (by decide) ?_
      refine j_aload_n d_Tap_addToken_97 rfl ?_
      refine j_dup d_Tap_addToken_98 rfl ?_
      refine gf_TP_0_5 f_Tap_28 d_Tap_addToken_99 ?_
      refine z_iconst d_Tap_addToken_102 ?_
      refine z_iadd d_Tap_addToken_103 ?_
      refine pf_TP_0_5 f_Tap_28 d_Tap_addToken_104 ?_
      first
      | (have hdd : isDg (by_ k) := by omega
         refine j_return rfl d_Tap_addToken_107 (hQ _ (fun j j0 j1 => up_ne (by omega)) (fun _ => ?_))
         rw [up_eq]
         unfold vlT
         rw [if_pos hdd])
      | (have hdd : ¬ isDg (by_ k) := by omega
         have hss : isS (by_ k) := by omega
         refine j_return rfl d_Tap_addToken_107 (hQ _ (fun j j0 j1 => rfl) (fun z => ?_))
         exfalso
         unfold cdT at z
         rw [if_pos hss] at z
         have := fnd_R (m := isW by_ k (enT by_ pz k)) WA 1 (by omega)
         rw [show WA.length = 27 from rfl] at this
         omega)
      | (have hdd : ¬ isDg (by_ k) := by omega
         have hss : ¬ isS (by_ k) := by omega
         have hco := cdT_o (size := pz) hss hdd (by omega)
         have hQ2 := hQ _ (fun j j0 j1 => rfl) (fun z => by rw [hco] at z; omega)
         rw [hco, tkm_o (by omega)] at hQ2
         exact j_return rfl d_Tap_addToken_107 hQ2)
    · refine z_if_eq (t := 82) d_Tap_addToken_61 (by decide) (by first | omega | exact hw _ | exact hx _ _ | assumption) (fun _ => ?_) (fun h => absurd h (by decide))
      refine j_aload_n d_Tap_addToken_82 rfl ?_
      refine gf_TP_0_2 f_Tap_19 d_Tap_addToken_83 ?_
      refine j_aload_n d_Tap_addToken_86 rfl ?_
      refine gf_TP_0_5 f_Tap_28 d_Tap_addToken_87 ?_
      refine j_aload_n d_Tap_addToken_90 rfl ?_
      refine gf_TP_0_0 f_Tap_9 d_Tap_addToken_91 ?_
      refine j_iload_n d_Tap_addToken_94 rfl ?_
      refine al_TP_1 d_Tap_addToken_95 (by omega) (by omega) ?_
      refine as_TP_2 d_Tap_addToken_96 (by omega) (by omega) ?_
      refine j_aload_n d_Tap_addToken_97 rfl ?_
      refine j_dup d_Tap_addToken_98 rfl ?_
      refine gf_TP_0_5 f_Tap_28 d_Tap_addToken_99 ?_
      refine z_iconst d_Tap_addToken_102 ?_
      refine z_iadd d_Tap_addToken_103 ?_
      refine pf_TP_0_5 f_Tap_28 d_Tap_addToken_104 ?_
      first
      | (have hdd : isDg (by_ k) := by omega
         refine j_return rfl d_Tap_addToken_107 (hQ _ (fun j j0 j1 => up_ne (by omega)) (fun _ => ?_))
         rw [up_eq]
         unfold vlT
         rw [if_pos hdd])
      | (have hdd : ¬ isDg (by_ k) := by omega
         have hss : isS (by_ k) := by omega
         refine j_return rfl d_Tap_addToken_107 (hQ _ (fun j j0 j1 => rfl) (fun z => ?_))
         exfalso
         unfold cdT at z
         rw [if_pos hss] at z
         have := fnd_R (m := isW by_ k (enT by_ pz k)) WA 1 (by omega)
         rw [show WA.length = 27 from rfl] at this
         omega)
      | (have hdd : ¬ isDg (by_ k) := by omega
         have hss : ¬ isS (by_ k) := by omega
         have hco := cdT_o (size := pz) hss hdd (by omega)
         have hQ2 := hQ _ (fun j j0 j1 => rfl) (fun z => by rw [hco] at z; omega)
         rw [hco, tkm_o (by omega)] at hQ2
         exact j_return rfl d_Tap_addToken_107 hQ2)
set_option maxHeartbeats 400000 in
theorem lp_splitC {g : Bool} {d : Nat} {Q : List xM → Option Value → Prop} {pz : Int} {by_ pw : Int → Int} (hby : ∀ j, 0 ≤ j → j < 400 → 0 ≤ by_ j ∧ by_ j ≤ 255) (hpw : ∀ j, 0 ≤ j → j < 137 → pw j = ofL TB j) (z0_ : 0 ≤ pz) (z1_ : pz ≤ 400) {R : TKS} (hQ : ∀ tkz psz pvz, TkR R.1 R.2.1 R.2.2.1 R.2.2.2 tkz psz pvz → tkz R.1 = 302 → psz R.1 = pz → Q (W_TP pz (R.1 + 1) by_ tkz psz pvz pw) none) : ∀ (nn : Nat) (m : Nat) (q : Int) (en : Int) (N : Int) (C : Int → Int) (V : Int → Int) (Pl : Int → Int) (tk : Int → Int) (ps : Int → Int) (pv : Int → Int), (pz - q).toNat = nn → 0 ≤ q → q ≤ pz → 0 ≤ en → en ≤ pz → 0 ≤ N → N ≤ max q en → (q < en ∨ N ≤ q) → pz - max q en ≤ (m : Int) → TkR N C V Pl tk ps pv → spT by_ pz m (max q en) (N, C, V, Pl) = R → SJ g m_Tap_split (d + 3) 9 [some (.ref 0), some (.int (ii en)), some (.int (ii q))] [] (W_TP pz N by_ tk ps pv pw) 0 0 Q := by
  intro nn
  induction nn using Nat.strongRecOn with
  | ind nn ih =>
  intro m q en N C V Pl tk ps pv hn q0 q1 e0 e1 n0 n1 n2 hm hTk hR
  refine j_iload_n d_Tap_split_9 rfl ?_
  refine j_aload_n d_Tap_split_10 rfl ?_
  refine gf_TP_0_1 f_Tap_15 d_Tap_split_11 ?_
  refine z_icmp_ge (t := 51) d_Tap_split_14 (by decide) (by first | omega | exact hw _ | exact hx _ _ | assumption) (by first | omega | exact hw _ | exact hx _ _ | assumption) (fun h14 => ?_) (fun h14 => ?_)
  · have hmx : max q en = pz := by omega
    have hR2 : ((N, C, V, Pl) : TKS) = R := by
      rw [← hR, hmx]
      cases m with
      | zero => rfl
      | succ m => simp only [spT]; rw [if_pos (Int.le_refl _)]
    subst hR2
    refine j_aload_n d_Tap_split_51 rfl ?_
    refine gf_TP_0_2 f_Tap_19 d_Tap_split_52 ?_
    refine j_aload_n d_Tap_split_55 rfl ?_
    refine gf_TP_0_5 f_Tap_28 d_Tap_split_56 ?_
    refine z_sipush d_Tap_split_59 (by decide) ?_
    refine as_TP_2 d_Tap_split_62 (by omega) (by omega) ?_
    refine j_aload_n d_Tap_split_63 rfl ?_
    refine gf_TP_0_3 f_Tap_22 d_Tap_split_64 ?_
    refine j_aload_n d_Tap_split_67 rfl ?_
    refine gf_TP_0_5 f_Tap_28 d_Tap_split_68 ?_
    refine j_aload_n d_Tap_split_71 rfl ?_
    refine gf_TP_0_1 f_Tap_15 d_Tap_split_72 ?_
    refine as_TP_3 d_Tap_split_75 (by omega) (by omega) ?_
    refine j_aload_n d_Tap_split_76 rfl ?_
    refine j_dup d_Tap_split_77 rfl ?_
    refine gf_TP_0_5 f_Tap_28 d_Tap_split_78 ?_
    refine z_iconst d_Tap_split_81 ?_
    refine z_iadd d_Tap_split_82 ?_
    refine pf_TP_0_5 f_Tap_28 d_Tap_split_83 ?_
    refine j_return rfl d_Tap_split_86 (hQ _ _ _ (fun j j0 j1 => ?_) up_eq up_eq)
    rw [up_ne (by simp only at j1; omega), up_ne (by simp only at j1; omega)]
    exact hTk j j0 j1
  · refine j_iload_n d_Tap_split_17 rfl ?_
    refine j_iload_n d_Tap_split_18 rfl ?_
    refine z_icmp_lt (t := 45) d_Tap_split_19 (by decide) (by first | omega | exact hw _ | exact hx _ _ | assumption) (by first | omega | exact hw _ | exact hx _ _ | assumption) (fun h19 => ?_) (fun h19 => ?_)
    · refine z_iinc d_Tap_split_45 rfl (by decide) ?_
      show SJ _ _ _ _ [_, _, _] _ _ _ _ _
      refine j_goto (t := 9) d_Tap_split_48 (by decide) ?_
      first
      | (refine ih _ (by omega) m (q + 1) en N C V Pl tk ps pv rfl (by omega) (by omega) e0 e1 n0 (by omega) (by omega) (by omega) hTk ?_
         rw [show max (q + 1) en = max q en by omega]
         exact hR)
      | (rw [if_pos (by omega)] at hR
         refine ih _ (by omega) m (q + 1) en N C V Pl tk ps pv rfl (by omega) (by omega) e0 e1 n0 (by omega) (by omega) (by omega) hTk ?_
         rw [show max (q + 1) en = q + 1 by omega]
         exact hR)
      | (refine ih _ (by omega) m (q + 1) (enT by_ pz q) (N + 1) _ _ _ _ _ _ rfl (by omega) (by omega) (by omega) (by omega) (by omega) (by omega) (by omega) (by omega) (hTk.next (c := cdT by_ pz q) (v := vlT by_ pz q) (k := q) (pv2 := pvz) rfl rfl (fun _ => rfl) hv1 hv2) ?_
         rw [show max (q + 1) (enT by_ pz q) = enT by_ pz q by omega]
         exact hR)
    · have hrt := hby q (by omega) (by omega)
      have hmx : max q en = q := by omega
      rw [hmx] at hR hm
      obtain ⟨m, rfl⟩ : ∃ j, m = j + 1 := ⟨m - 1, by omega⟩
      simp only [spT] at hR
      rw [if_neg (by omega)] at hR
      refine j_aload_n d_Tap_split_22 rfl ?_
      refine gf_TP_0_0 f_Tap_9 d_Tap_split_23 ?_
      refine j_iload_n d_Tap_split_26 rfl ?_
      refine al_TP_1 d_Tap_split_27 (by omega) (by omega) ?_
      refine z_bipush d_Tap_split_28 (by decide) ?_
      refine z_icmp_eq (t := 45) d_Tap_split_30 (by decide) (by first | omega | exact hw _ | exact hx _ _ | assumption) (by first | omega | exact hw _ | exact hx _ _ | assumption) (fun h30 => ?_) (fun h30 => ?_)
      · refine z_iinc d_Tap_split_45 rfl (by decide) ?_
        show SJ _ _ _ _ [_, _, _] _ _ _ _ _
        refine j_goto (t := 9) d_Tap_split_48 (by decide) ?_
        first
        | (refine ih _ (by omega) m (q + 1) en N C V Pl tk ps pv rfl (by omega) (by omega) e0 e1 n0 (by omega) (by omega) (by omega) hTk ?_
           rw [show max (q + 1) en = max q en by omega]
           exact hR)
        | (rw [if_pos (by omega)] at hR
           refine ih _ (by omega) m (q + 1) en N C V Pl tk ps pv rfl (by omega) (by omega) e0 e1 n0 (by omega) (by omega) (by omega) hTk ?_
           rw [show max (q + 1) en = q + 1 by omega]
           exact hR)
        | (refine ih _ (by omega) m (q + 1) (enT by_ pz q) (N + 1) _ _ _ _ _ _ rfl (by omega) (by omega) (by omega) (by omega) (by omega) (by omega) (by omega) (by omega) (hTk.next (c := cdT by_ pz q) (v := vlT by_ pz q) (k := q) (pv2 := pvz) rfl rfl (fun _ => rfl) hv1 hv2) ?_
           rw [show max (q + 1) (enT by_ pz q) = enT by_ pz q by omega]
           exact hR)
      · rw [if_neg (by omega)] at hR
        have hen := enT_R (t := by_) (size := pz) (k := q) (by omega)
        refine j_aload_n d_Tap_split_33 rfl ?_
        refine j_iload_n d_Tap_split_34 rfl ?_
        refine v_call1 d_Tap_split_35 c_Tap_43 rfl ⟨_, rfl, rfl⟩ (Nat.le_of_ble_eq_true rfl) (t_Tap_endOf hby z0_ z1_ (by omega) (by omega) ?_)
        refine j_istore_n d_Tap_split_38 (by decide) ?_
        show SJ _ _ _ _ [_, _, _] _ _ _ _ _
        refine j_aload_n d_Tap_split_39 rfl ?_
        refine j_iload_n d_Tap_split_40 rfl ?_
        refine j_iload_n d_Tap_split_41 rfl ?_
        refine v_call2 d_Tap_split_42 c_Tap_47 rfl ⟨_, rfl, rfl⟩ (Nat.le_of_ble_eq_true rfl) (t_Tap_addToken hby hpw z0_ z1_ (by omega) (by omega) (by omega) (by omega) (fun pvz hv1 hv2 => ?_))
        refine z_iinc d_Tap_split_45 rfl (by decide) ?_
        show SJ _ _ _ _ [_, _, _] _ _ _ _ _
        refine j_goto (t := 9) d_Tap_split_48 (by decide) ?_
        first
        | (refine ih _ (by omega) m (q + 1) en N C V Pl tk ps pv rfl (by omega) (by omega) e0 e1 n0 (by omega) (by omega) (by omega) hTk ?_
           rw [show max (q + 1) en = max q en by omega]
           exact hR)
        | (rw [if_pos (by omega)] at hR
           refine ih _ (by omega) m (q + 1) en N C V Pl tk ps pv rfl (by omega) (by omega) e0 e1 n0 (by omega) (by omega) (by omega) hTk ?_
           rw [show max (q + 1) en = q + 1 by omega]
           exact hR)
        | (refine ih _ (by omega) m (q + 1) (enT by_ pz q) (N + 1) _ _ _ _ _ _ rfl (by omega) (by omega) (by omega) (by omega) (by omega) (by omega) (by omega) (by omega) (hTk.next (c := cdT by_ pz q) (v := vlT by_ pz q) (k := q) (pv2 := pvz) rfl rfl (fun _ => rfl) hv1 hv2) ?_
           rw [show max (q + 1) (enT by_ pz q) = enT by_ pz q by omega]
           exact hR)
set_option maxHeartbeats 400000 in
theorem t_Tap_split {g : Bool} {d : Nat} {Q : List xM → Option Value → Prop} {pz pn : Int} {by_ tk ps pv pw : Int → Int} (hby : ∀ j, 0 ≤ j → j < 400 → 0 ≤ by_ j ∧ by_ j ≤ 255) (hpw : ∀ j, 0 ≤ j → j < 137 → pw j = ofL TB j) (z0_ : 0 ≤ pz) (z1_ : pz ≤ 400) {q : TKS} (hQ : ∀ tkz psz pvz, TkR ((fun a b c => spT a b 400 0 (0, c.2)) by_ pz q).1 ((fun a b c => spT a b 400 0 (0, c.2)) by_ pz q).2.1 ((fun a b c => spT a b 400 0 (0, c.2)) by_ pz q).2.2.1 ((fun a b c => spT a b 400 0 (0, c.2)) by_ pz q).2.2.2 tkz psz pvz → tkz ((fun a b c => spT a b 400 0 (0, c.2)) by_ pz q).1 = 302 → psz ((fun a b c => spT a b 400 0 (0, c.2)) by_ pz q).1 = pz → Q (W_TP pz ((spT by_ pz 400 0 (0, q.2)).1 + 1) by_ tkz psz pvz pw) none) : CT g m_Tap_split (d + 3) [.ref 0] (W_TP pz pn by_ tk ps pv pw) 0 0 Q := by
  refine CT.of (by decide) (Nat.le_of_ble_eq_true rfl) ?_
  show SJ _ _ _ _ [some (.ref 0), none, none] [] _ _ _ _
  refine j_aload_n d_Tap_split_0 rfl ?_
  refine z_iconst d_Tap_split_1 ?_
  refine pf_TP_0_5 f_Tap_28 d_Tap_split_2 ?_
  refine z_iconst d_Tap_split_5 ?_
  refine j_istore_n d_Tap_split_6 (by decide) ?_
  show SJ _ _ _ _ [_, _, _] _ _ _ _ _
  refine z_iconst d_Tap_split_7 ?_
  refine j_istore_n d_Tap_split_8 (by decide) ?_
  show SJ _ _ _ _ [_, _, _] _ _ _ _ _
  exact lp_splitC hby hpw z0_ z1_ hQ _ 400 0 0 0 q.2.1 q.2.2.1 q.2.2.2 tk ps pv rfl (by omega) (by omega) (by omega) (by omega) (by omega) (by omega) (by omega) (by omega) (fun j j0 j1 => by omega) (by rw [show max (0 : Int) 0 = 0 by decide])
