/-! the house's own methods -/
def rix (k : Int) : Int := if k = -1 then 0 else if k = -2 then 1 else if k = -3 then 2 else if k = -5 then 3 else 4
theorem rix_R (k : Int) : 0 ≤ rix k ∧ rix k < 5 := by
  unfold rix
  split
  · omega
  · split
    · omega
    · split
      · omega
      · split <;> omega
def tbS (j : Nat) (a : Int) : Int := if j = 0 then (if a = 1 then 1 else 0) else (if a = 0 then 999 else 9)
theorem tbS_R (a : Int) : ((tbS 0 a = 1 ∧ a = 1) ∨ (tbS 0 a = 0 ∧ a ≠ 1)) ∧ ((tbS 1 a = 999 ∧ a = 0) ∨ (tbS 1 a = 9 ∧ a ≠ 0)) := by
  have e0 : tbS 0 a = if a = 1 then 1 else 0 := rfl
  have e1 : tbS 1 a = if a = 0 then 999 else 9 := rfl
  rw [e0, e1]
  constructor
  · by_cases c : a = 1
    · rw [if_pos c]; exact Or.inl ⟨rfl, c⟩
    · rw [if_neg c]; exact Or.inr ⟨rfl, c⟩
  · by_cases c : a = 0
    · rw [if_pos c]; exact Or.inl ⟨rfl, c⟩
    · rw [if_neg c]; exact Or.inr ⟨rfl, c⟩
theorem z_tld {g : Bool} {y : xY} {d pc : Nat} {L : List (Option Value)} {st : List Value} {mem : List xM} {bc bs : Nat} {Q : List xM → Option Value → Prop} {j0 : Nat} {a : Int} (hj : j0 < 2) (hd : decode y.2.1 pc = .ok (.iaload, 1)) (h0 : 0 ≤ a) (h1 : a < 3) (kk : SJ g y d (pc + 1) L (.int (ii (tbS j0 a)) :: st) mem bc bs Q) : SJ g y d pc L (.int (ii a) :: .retAddr j0 :: st) mem bc bs Q := by
  refine j_tld (by omega) hd (ii_in h0 (by omega) (by omega)) ?_
  have e : x_st j0 (ii a).toNatClampNeg = ii (tbS j0 a) := by
    rw [ii_nat (by omega)]
    have ha : a = 0 ∨ a = 1 ∨ a = 2 := by omega
    have hj2 : j0 = 0 ∨ j0 = 1 := by omega
    rcases ha with rfl | rfl | rfl <;> rcases hj2 with rfl | rfl <;> decide
  rw [e]
  exact kk
theorem t_Hou_refusalIndex {g : Bool} {d : Nat} {Q : List xM → Option Value → Prop} {mem : List xM} {k : Int} (r1 : R32 k) (hQ : Q mem (some (.int (ii (rix k))))) : CT g m_Hou_refusalIndex d [.int (ii k)] mem 0 0 Q := by
  refine CT.of (by decide) (Nat.le_of_ble_eq_true rfl) ?_
  show SJ _ _ _ _ [some (.int (ii k))] [] _ _ _ _
  refine j_iload_n d_Hou_refusalIndex_0 rfl ?_
  refine z_case (-5) (fun h1_0 => ?_) (fun h1_0 => ?_)
  · refine z_tabIn (t := 42) (o := 41) d_Hou_refusalIndex_1 (by first | omega | exact hw _ | exact hx _ _ | assumption) (by omega) (by omega) (by rw [h1_0]; rfl) (by decide) ?_
    refine z_iconst d_Hou_refusalIndex_42 ?_
    exact z_iret rfl d_Hou_refusalIndex_43 (by unfold rix; first | rw [if_pos (by omega)] | rw [if_neg (by omega), if_pos (by omega)] | rw [if_neg (by omega), if_neg (by omega), if_pos (by omega)] | rw [if_neg (by omega), if_neg (by omega), if_neg (by omega), if_pos (by omega)] | rw [if_neg (by omega), if_neg (by omega), if_neg (by omega), if_neg (by omega)]) hQ
  refine z_case (-4) (fun h1_1 => ?_) (fun h1_1 => ?_)
  · refine z_tabIn (t := 44) (o := 43) d_Hou_refusalIndex_1 (by first | omega | exact hw _ | exact hx _ _ | assumption) (by omega) (by omega) (by rw [h1_1]; rfl) (by decide) ?_
    refine z_iconst d_Hou_refusalIndex_44 ?_
    exact z_iret rfl d_Hou_refusalIndex_45 (by unfold rix; first | rw [if_pos (by omega)] | rw [if_neg (by omega), if_pos (by omega)] | rw [if_neg (by omega), if_neg (by omega), if_pos (by omega)] | rw [if_neg (by omega), if_neg (by omega), if_neg (by omega), if_pos (by omega)] | rw [if_neg (by omega), if_neg (by omega), if_neg (by omega), if_neg (by omega)]) hQ
  refine z_case (-3) (fun h1_2 => ?_) (fun h1_2 => ?_)
  · refine z_tabIn (t := 40) (o := 39) d_Hou_refusalIndex_1 (by first | omega | exact hw _ | exact hx _ _ | assumption) (by omega) (by omega) (by rw [h1_2]; rfl) (by decide) ?_
    refine z_iconst d_Hou_refusalIndex_40 ?_
    exact z_iret rfl d_Hou_refusalIndex_41 (by unfold rix; first | rw [if_pos (by omega)] | rw [if_neg (by omega), if_pos (by omega)] | rw [if_neg (by omega), if_neg (by omega), if_pos (by omega)] | rw [if_neg (by omega), if_neg (by omega), if_neg (by omega), if_pos (by omega)] | rw [if_neg (by omega), if_neg (by omega), if_neg (by omega), if_neg (by omega)]) hQ
  refine z_case (-2) (fun h1_3 => ?_) (fun h1_3 => ?_)
  · refine z_tabIn (t := 38) (o := 37) d_Hou_refusalIndex_1 (by first | omega | exact hw _ | exact hx _ _ | assumption) (by omega) (by omega) (by rw [h1_3]; rfl) (by decide) ?_
    refine z_iconst d_Hou_refusalIndex_38 ?_
    exact z_iret rfl d_Hou_refusalIndex_39 (by unfold rix; first | rw [if_pos (by omega)] | rw [if_neg (by omega), if_pos (by omega)] | rw [if_neg (by omega), if_neg (by omega), if_pos (by omega)] | rw [if_neg (by omega), if_neg (by omega), if_neg (by omega), if_pos (by omega)] | rw [if_neg (by omega), if_neg (by omega), if_neg (by omega), if_neg (by omega)]) hQ
  refine z_case (-1) (fun h1_4 => ?_) (fun h1_4 => ?_)
  · refine z_tabIn (t := 36) (o := 35) d_Hou_refusalIndex_1 (by first | omega | exact hw _ | exact hx _ _ | assumption) (by omega) (by omega) (by rw [h1_4]; rfl) (by decide) ?_
    refine z_iconst d_Hou_refusalIndex_36 ?_
    exact z_iret rfl d_Hou_refusalIndex_37 (by unfold rix; first | rw [if_pos (by omega)] | rw [if_neg (by omega), if_pos (by omega)] | rw [if_neg (by omega), if_neg (by omega), if_pos (by omega)] | rw [if_neg (by omega), if_neg (by omega), if_neg (by omega), if_pos (by omega)] | rw [if_neg (by omega), if_neg (by omega), if_neg (by omega), if_neg (by omega)]) hQ
  refine z_tabOut (t := 44) d_Hou_refusalIndex_1 (by first | omega | exact hw _ | exact hx _ _ | assumption) (by omega) (by decide) ?_
  refine z_iconst d_Hou_refusalIndex_44 ?_
  exact z_iret rfl d_Hou_refusalIndex_45 (by unfold rix; first | rw [if_pos (by omega)] | rw [if_neg (by omega), if_pos (by omega)] | rw [if_neg (by omega), if_neg (by omega), if_pos (by omega)] | rw [if_neg (by omega), if_neg (by omega), if_neg (by omega), if_pos (by omega)] | rw [if_neg (by omega), if_neg (by omega), if_neg (by omega), if_neg (by omega)]) hQ
theorem t_Hou_refuse {g : Bool} {d : Nat} {Q : List xM → Option Value → Prop} {hdn bl sp su lc fo rn rl rp pz pn fl td br dz ez rdn rlt rbr fz : Int} {rs rm rd ro tm kp by_ tk ps pv pw sk wd dk dl dg rsk wr rf : Int → Int} {qI aI bI cI gI pI yI : Nat → Int} {qF aF bF cF gF eF fF pF yF nF : Nat → Int → Int} {pr be wy : Int → Int → Int} {lx qx ax bx cx : Nat → Option Nat} {ts : List TD} {k : Int} (k0 : -6 ≤ k) (k1 : k ≤ -1) (hQ : Q (W_H hdn bl sp k lc fo rn rl rp pz pn fl td br dz ez rdn rlt rbr fz rs rm rd ro tm kp by_ tk ps pv pw sk wd dk dl dg rsk wr (up rf (rix k) (rf (rix k) + 1)) qI aI bI cI gI pI yI qF aF bF cF gF eF fF pF yF nF pr be wy lx qx ax bx cx ts) (some (.int (ii k)))) : CT g m_Hou_refuse (d + 1) [.ref 0, .int (ii k)] (W_H hdn bl sp su lc fo rn rl rp pz pn fl td br dz ez rdn rlt rbr fz rs rm rd ro tm kp by_ tk ps pv pw sk wd dk dl dg rsk wr rf qI aI bI cI gI pI yI qF aF bF cF gF eF fF pF yF nF pr be wy lx qx ax bx cx ts) 0 0 Q := by
  refine CT.of (by decide) (Nat.le_of_ble_eq_true rfl) ?_
  show SJ _ _ _ _ [some (.ref 0), some (.int (ii k))] [] _ _ _ _
  have hrx := rix_R k
  refine j_aload_n d_Hou_refuse_0 rfl ?_
  refine j_iload_n d_Hou_refuse_1 rfl ?_
  refine pf_H_0_16 f_Hou_102 d_Hou_refuse_2 ?_
  refine j_aload_n d_Hou_refuse_5 rfl ?_
  refine gf_H_0_12 f_Hou_87 d_Hou_refuse_6 ?_
  refine j_iload_n d_Hou_refuse_9 rfl ?_
  refine s_call1 d_Hou_refuse_10 c_Hou_335 (Nat.le_of_ble_eq_true rfl) (t_Hou_refusalIndex (by omega) ?_)
  refine j_dup2 d_Hou_refuse_13 rfl rfl ?_
  refine al_H_131 d_Hou_refuse_14 (by omega) (by omega) ?_
  refine z_iconst d_Hou_refuse_15 ?_
  refine z_iadd d_Hou_refuse_16 ?_
  refine as_H_131 d_Hou_refuse_17 (by omega) (by omega) ?_
  refine j_iload_n d_Hou_refuse_18 rfl ?_
  exact z_iret rfl d_Hou_refuse_19 (by first | rfl | omega | simp_all) hQ
theorem t_Hou_grant {g : Bool} {d : Nat} {Q : List xM → Option Value → Prop} {hdn bl sp su lc fo rn rl rp pz pn fl td br dz ez rdn rlt rbr fz : Int} {rs rm rd ro tm kp by_ tk ps pv pw sk wd dk dl dg rsk wr rf : Int → Int} {qI aI bI cI gI pI yI : Nat → Int} {qF aF bF cF gF eF fF pF yF nF : Nat → Int → Int} {pr be wy : Int → Int → Int} {lx qx ax bx cx : Nat → Option Nat} {ts : List TD} {v : Int} (hQ : Q (W_H hdn bl sp 0 lc fo rn rl rp pz pn fl td br dz ez rdn rlt rbr fz rs rm rd ro tm kp by_ tk ps pv pw sk wd dk dl dg rsk wr rf qI aI bI cI gI pI yI qF aF bF cF gF eF fF pF yF nF pr be wy lx qx ax bx cx ts) (some (.int (ii v)))) : CT g m_Hou_grant d [.ref 0, .int (ii v)] (W_H hdn bl sp su lc fo rn rl rp pz pn fl td br dz ez rdn rlt rbr fz rs rm rd ro tm kp by_ tk ps pv pw sk wd dk dl dg rsk wr rf qI aI bI cI gI pI yI qF aF bF cF gF eF fF pF yF nF pr be wy lx qx ax bx cx ts) 0 0 Q := by
  refine CT.of (by decide) (Nat.le_of_ble_eq_true rfl) ?_
  show SJ _ _ _ _ [some (.ref 0), some (.int (ii v))] [] _ _ _ _
  refine j_aload_n d_Hou_grant_0 rfl ?_
  refine z_iconst d_Hou_grant_1 ?_
  refine pf_H_0_16 f_Hou_102 d_Hou_grant_2 ?_
  refine j_iload_n d_Hou_grant_5 rfl ?_
  exact z_iret rfl d_Hou_grant_6 (by first | rfl | omega | simp_all) hQ
theorem t_Hou_answer {g : Bool} {d : Nat} {Q : List xM → Option Value → Prop} {hdn bl sp su lc fo rn rl rp pz pn fl td br dz ez rdn rlt rbr fz : Int} {rs rm rd ro tm kp by_ tk ps pv pw sk wd dk dl dg rsk wr rf : Int → Int} {qI aI bI cI gI pI yI : Nat → Int} {qF aF bF cF gF eF fF pF yF nF : Nat → Int → Int} {pr be wy : Int → Int → Int} {lx qx ax bx cx : Nat → Option Nat} {ts : List TD} {v : Int} (v0 : -6 ≤ v) (r1 : R32 v) (hno : v < 0 → Q (W_H hdn bl sp v lc fo rn rl rp pz pn fl td br dz ez rdn rlt rbr fz rs rm rd ro tm kp by_ tk ps pv pw sk wd dk dl dg rsk wr (up rf (rix v) (rf (rix v) + 1)) qI aI bI cI gI pI yI qF aF bF cF gF eF fF pF yF nF pr be wy lx qx ax bx cx ts) (some (.int (ii v)))) (hyes : 0 ≤ v → Q (W_H hdn bl sp 0 lc fo rn rl rp pz pn fl td br dz ez rdn rlt rbr fz rs rm rd ro tm kp by_ tk ps pv pw sk wd dk dl dg rsk wr rf qI aI bI cI gI pI yI qF aF bF cF gF eF fF pF yF nF pr be wy lx qx ax bx cx ts) (some (.int (ii v)))) : CT g m_Hou_answer (d + 2) [.ref 0, .int (ii v)] (W_H hdn bl sp su lc fo rn rl rp pz pn fl td br dz ez rdn rlt rbr fz rs rm rd ro tm kp by_ tk ps pv pw sk wd dk dl dg rsk wr rf qI aI bI cI gI pI yI qF aF bF cF gF eF fF pF yF nF pr be wy lx qx ax bx cx ts) 0 0 Q := by
  refine CT.of (by decide) (Nat.le_of_ble_eq_true rfl) ?_
  show SJ _ _ _ _ [some (.ref 0), some (.int (ii v))] [] _ _ _ _
  refine j_iload_n d_Hou_answer_0 rfl ?_
  refine z_if_ge (t := 12) d_Hou_answer_1 (by decide) (by first | omega | exact hw _ | exact hx _ _ | assumption) (fun h1 => ?_) (fun h1 => ?_)
  · refine j_aload_n d_Hou_answer_12 rfl ?_
    refine j_iload_n d_Hou_answer_13 rfl ?_
    refine v_call1 d_Hou_answer_14 c_Hou_121 rfl ⟨_, rfl, rfl⟩ (Nat.le_of_ble_eq_true rfl) (t_Hou_grant  ?_)
    first
    | exact z_iret rfl d_Hou_answer_17 rfl (hno (by omega))
    | exact z_iret rfl d_Hou_answer_17 rfl (hyes (by omega))
  · refine j_aload_n d_Hou_answer_4 rfl ?_
    refine j_iload_n d_Hou_answer_5 rfl ?_
    refine v_call1 d_Hou_answer_6 c_Hou_111 rfl ⟨_, rfl, rfl⟩ (Nat.le_of_ble_eq_true rfl) (t_Hou_refuse (by omega) (by omega) ?_)
    refine j_goto (t := 17) d_Hou_answer_9 (by decide) ?_
    first
    | exact z_iret rfl d_Hou_answer_17 rfl (hno (by omega))
    | exact z_iret rfl d_Hou_answer_17 rfl (hyes (by omega))
theorem t_Hou_terms {g : Bool} {d : Nat} {Q : List xM → Option Value → Prop} {hdn bl sp su lc fo rn rl rp pz pn fl td br dz ez rdn rlt rbr fz : Int} {rs rm rd ro tm kp by_ tk ps pv pw sk wd dk dl dg rsk wr rf : Int → Int} {qI aI bI cI gI pI yI : Nat → Int} {qF aF bF cF gF eF fF pF yF nF : Nat → Int → Int} {pr be wy : Int → Int → Int} {lx qx ax bx cx : Nat → Option Nat} {ts : List TD} {what value : Int} (r1 : R32 what) (r2 : R32 value) (ht : ((what = 0 ∧ 0 ≤ value ∧ value ≤ 999) ∨ (what = 1 ∧ 1 ≤ value ∧ value ≤ 9) ∨ (what = 2 ∧ 0 ≤ value ∧ value ≤ 9)) → Q (W_H hdn bl sp 0 lc fo rn rl rp pz pn fl td br 0 ez rdn rlt rbr fz rs rm rd ro (up tm what value) kp by_ tk ps pv pw sk wd dk dl dg rsk wr rf qI aI bI cI gI pI yI qF aF bF cF gF eF fF pF yF nF pr be wy lx qx ax bx cx ts) (some (.int (ii (tm what))))) (hf : ¬ ((what = 0 ∧ 0 ≤ value ∧ value ≤ 999) ∨ (what = 1 ∧ 1 ≤ value ∧ value ≤ 9) ∨ (what = 2 ∧ 0 ≤ value ∧ value ≤ 9)) → Q (W_H hdn bl sp (-1) lc fo rn rl rp pz pn fl td br dz ez rdn rlt rbr fz rs rm rd ro tm kp by_ tk ps pv pw sk wd dk dl dg rsk wr (up rf (rix (-1)) (rf (rix (-1)) + 1)) qI aI bI cI gI pI yI qF aF bF cF gF eF fF pF yF nF pr be wy lx qx ax bx cx ts) (some (.int (ii (-1))))) : CT g m_Hou_terms (d + 2) [.ref 0, .int (ii what), .int (ii value)] (W_H hdn bl sp su lc fo rn rl rp pz pn fl td br dz ez rdn rlt rbr fz rs rm rd ro tm kp by_ tk ps pv pw sk wd dk dl dg rsk wr rf qI aI bI cI gI pI yI qF aF bF cF gF eF fF pF yF nF pr be wy lx qx ax bx cx ts) 0 0 Q := by
  refine CT.of (by decide) (Nat.le_of_ble_eq_true rfl) ?_
  show SJ _ _ _ _ [some (.ref 0), some (.int (ii what)), some (.int (ii value)), none] [] _ _ _ _
  have hts := tbS_R what
  refine j_iload_n d_Hou_terms_0 rfl ?_
  refine z_if_lt (t := 27) d_Hou_terms_1 (by decide) (by first | omega | exact hw _ | exact hx _ _ | assumption) (fun h1 => ?_) (fun h1 => ?_)
  · refine j_aload_n d_Hou_terms_27 rfl ?_
    refine z_iconst d_Hou_terms_28 ?_
    refine v_call1 d_Hou_terms_29 c_Hou_111 rfl ⟨_, rfl, rfl⟩ (Nat.le_of_ble_eq_true rfl) (t_Hou_refuse (by omega) (by omega) ?_)
    exact z_iret rfl d_Hou_terms_32 rfl (hf (by omega))
  · refine j_iload_n d_Hou_terms_4 rfl ?_
    refine z_iconst d_Hou_terms_5 ?_
    refine z_icmp_ge (t := 27) d_Hou_terms_6 (by decide) (by first | omega | exact hw _ | exact hx _ _ | assumption) (by first | omega | exact hw _ | exact hx _ _ | assumption) (fun h6 => ?_) (fun h6 => ?_)
    · refine j_aload_n d_Hou_terms_27 rfl ?_
      refine z_iconst d_Hou_terms_28 ?_
      refine v_call1 d_Hou_terms_29 c_Hou_111 rfl ⟨_, rfl, rfl⟩ (Nat.le_of_ble_eq_true rfl) (t_Hou_refuse (by omega) (by omega) ?_)
      exact z_iret rfl d_Hou_terms_32 rfl (hf (by omega))
    · refine j_iload_n d_Hou_terms_9 rfl ?_
      refine j_gets (j0 := 0) (by decide) d_Hou_terms_10 s_Hou_105 ?_
      refine j_iload_n d_Hou_terms_13 rfl ?_
      refine z_tld (j0 := 0) (by decide) d_Hou_terms_14 (by omega) (by omega) ?_
      refine z_icmp_lt (t := 27) d_Hou_terms_15 (by decide) (by first | omega | exact hw _ | exact hx _ _ | assumption) (by first | omega | exact hw _ | exact hx _ _ | assumption) (fun h15 => ?_) (fun h15 => ?_)
      · refine j_aload_n d_Hou_terms_27 rfl ?_
        refine z_iconst d_Hou_terms_28 ?_
        refine v_call1 d_Hou_terms_29 c_Hou_111 rfl ⟨_, rfl, rfl⟩ (Nat.le_of_ble_eq_true rfl) (t_Hou_refuse (by omega) (by omega) ?_)
        exact z_iret rfl d_Hou_terms_32 rfl (hf (by omega))
      · refine j_iload_n d_Hou_terms_18 rfl ?_
        refine j_gets (j0 := 1) (by decide) d_Hou_terms_19 s_Hou_108 ?_
        refine j_iload_n d_Hou_terms_22 rfl ?_
        refine z_tld (j0 := 1) (by decide) d_Hou_terms_23 (by omega) (by omega) ?_
        refine z_icmp_le (t := 33) d_Hou_terms_24 (by decide) (by first | omega | exact hw _ | exact hx _ _ | assumption) (by first | omega | exact hw _ | exact hx _ _ | assumption) (fun h24 => ?_) (fun h24 => ?_)
        · refine j_aload_n d_Hou_terms_33 rfl ?_
          refine gf_H_0_0 f_Hou_12 d_Hou_terms_34 ?_
          refine gf_H_1_1 f_Hou_115 d_Hou_terms_37 ?_
          refine j_iload_n d_Hou_terms_40 rfl ?_
          refine al_H_7 d_Hou_terms_41 (by omega) (by omega) ?_
          refine j_istore_n d_Hou_terms_42 (by decide) ?_
          show SJ _ _ _ _ [_, _, _, _] _ _ _ _ _
          refine j_aload_n d_Hou_terms_43 rfl ?_
          refine gf_H_0_0 f_Hou_12 d_Hou_terms_44 ?_
          refine gf_H_1_1 f_Hou_115 d_Hou_terms_47 ?_
          refine j_iload_n d_Hou_terms_50 rfl ?_
          refine j_iload_n d_Hou_terms_51 rfl ?_
          refine as_H_7 d_Hou_terms_52 (by omega) (by omega) ?_
          refine j_aload_n d_Hou_terms_53 rfl ?_
          refine gf_H_0_7 f_Hou_55 d_Hou_terms_54 ?_
          refine v_call0 d_Hou_terms_57 c_Hou_118 rfl ⟨_, rfl, rfl⟩ (Nat.le_of_ble_eq_true rfl) (E_H_D (fun Q2 kz => t_Dee_forget (kz _ _ _ _ _ _ _ _ _ _ _ _ _ _ _ _ _ rfl ?_)) rfl)
          refine j_aload_n d_Hou_terms_60 rfl ?_
          refine j_iload_n d_Hou_terms_61 rfl ?_
          refine v_call1 d_Hou_terms_62 c_Hou_121 rfl ⟨_, rfl, rfl⟩ (Nat.le_of_ble_eq_true rfl) (t_Hou_grant  ?_)
          exact z_iret rfl d_Hou_terms_65 rfl (ht (by omega))
        · refine j_aload_n d_Hou_terms_27 rfl ?_
          refine z_iconst d_Hou_terms_28 ?_
          refine v_call1 d_Hou_terms_29 c_Hou_111 rfl ⟨_, rfl, rfl⟩ (Nat.le_of_ble_eq_true rfl) (t_Hou_refuse (by omega) (by omega) ?_)
          exact z_iret rfl d_Hou_terms_32 rfl (hf (by omega))
theorem t_Hou_feed {g : Bool} {d : Nat} {Q : List xM → Option Value → Prop} {hdn bl sp su lc fo rn rl rp pz pn fl td br dz ez rdn rlt rbr fz : Int} {rs rm rd ro tm kp by_ tk ps pv pw sk wd dk dl dg rsk wr rf : Int → Int} {qI aI bI cI gI pI yI : Nat → Int} {qF aF bF cF gF eF fF pF yF nF : Nat → Int → Int} {pr be wy : Int → Int → Int} {lx qx ax bx cx : Nat → Option Nat} {ts : List TD} {a b c e f : Int} (ra : R32 a) (rb : R32 b) (rc : R32 c) (re : R32 e) (rf_ : R32 f) (z0_ : 0 ≤ pz) (z1_ : pz ≤ 400) (hno : 380 < pz → Q (W_H hdn bl sp su lc fo rn rl rp pz pn fl td br dz ez rdn rlt rbr fz rs rm rd ro tm kp by_ tk ps pv pw sk wd dk dl dg rsk wr rf qI aI bI cI gI pI yI qF aF bF cF gF eF fF pF yF nF pr be wy lx qx ax bx cx ts) (some (.int (ii (-1))))) (hyes : pz ≤ 380 → Q (W_H hdn bl sp su lc fo rn rl rp (pz + 4 + 4 + 4 + 4 + 4) pn fl td br dz ez rdn rlt rbr fz rs rm rd ro tm kp (adB f (pz + 4 + 4 + 4 + 4) 4 (adB e (pz + 4 + 4 + 4) 4 (adB c (pz + 4 + 4) 4 (adB b (pz + 4) 4 (adB a pz 4 by_))))) tk ps pv pw sk wd dk dl dg rsk wr rf qI aI bI cI gI pI yI qF aF bF cF gF eF fF pF yF nF pr be wy lx qx ax bx cx ts) (some (.int (ii (pz + 4 + 4 + 4 + 4 + 4))))) : CT g m_Hou_feed (d + 1) [.ref 0, .int (ii a), .int (ii b), .int (ii c), .int (ii e), .int (ii f)] (W_H hdn bl sp su lc fo rn rl rp pz pn fl td br dz ez rdn rlt rbr fz rs rm rd ro tm kp by_ tk ps pv pw sk wd dk dl dg rsk wr rf qI aI bI cI gI pI yI qF aF bF cF gF eF fF pF yF nF pr be wy lx qx ax bx cx ts) 0 0 Q := by
  refine CT.of (by decide) (Nat.le_of_ble_eq_true rfl) ?_
  show SJ _ _ _ _ [some (.ref 0), some (.int (ii a)), some (.int (ii b)), some (.int (ii c)), some (.int (ii e)), some (.int (ii f))] [] _ _ _ _
  refine j_aload_n d_Hou_feed_0 rfl ?_
  refine gf_H_0_4 f_Hou_30 d_Hou_feed_1 ?_
  refine gf_H_19_1 f_Hou_124 d_Hou_feed_4 ?_
  refine z_bipush d_Hou_feed_7 (by decide) ?_
  refine z_iadd d_Hou_feed_9 ?_
  refine z_sipush d_Hou_feed_10 (by decide) ?_
  refine z_icmp_le (t := 18) d_Hou_feed_13 (by decide) (by first | omega | exact hw _ | exact hx _ _ | assumption) (by first | omega | exact hw _ | exact hx _ _ | assumption) (fun h13 => ?_) (fun h13 => ?_)
  · refine j_aload_n d_Hou_feed_18 rfl ?_
    refine gf_H_0_4 f_Hou_30 d_Hou_feed_19 ?_
    refine j_iload_n d_Hou_feed_22 rfl ?_
    refine v_call1 d_Hou_feed_23 c_Hou_127 rfl ⟨_, rfl, rfl⟩ (Nat.le_of_ble_eq_true rfl) (E_H_TP (fun Q2 kz => t_Tap_addNumber ra (by omega) (by omega) (kz _ _ _ _ _ _ _ _ rfl ?_)) rfl)
    refine j_aload_n d_Hou_feed_26 rfl ?_
    refine gf_H_0_4 f_Hou_30 d_Hou_feed_27 ?_
    refine j_iload_n d_Hou_feed_30 rfl ?_
    refine v_call1 d_Hou_feed_31 c_Hou_127 rfl ⟨_, rfl, rfl⟩ (Nat.le_of_ble_eq_true rfl) (E_H_TP (fun Q2 kz => t_Tap_addNumber rb (by omega) (by omega) (kz _ _ _ _ _ _ _ _ rfl ?_)) rfl)
    refine j_aload_n d_Hou_feed_34 rfl ?_
    refine gf_H_0_4 f_Hou_30 d_Hou_feed_35 ?_
    refine j_iload_n d_Hou_feed_38 rfl ?_
    refine v_call1 d_Hou_feed_39 c_Hou_127 rfl ⟨_, rfl, rfl⟩ (Nat.le_of_ble_eq_true rfl) (E_H_TP (fun Q2 kz => t_Tap_addNumber rc (by omega) (by omega) (kz _ _ _ _ _ _ _ _ rfl ?_)) rfl)
    refine j_aload_n d_Hou_feed_42 rfl ?_
    refine gf_H_0_4 f_Hou_30 d_Hou_feed_43 ?_
    refine j_iload d_Hou_feed_46 rfl ?_
    refine v_call1 d_Hou_feed_48 c_Hou_127 rfl ⟨_, rfl, rfl⟩ (Nat.le_of_ble_eq_true rfl) (E_H_TP (fun Q2 kz => t_Tap_addNumber re (by omega) (by omega) (kz _ _ _ _ _ _ _ _ rfl ?_)) rfl)
    refine j_aload_n d_Hou_feed_51 rfl ?_
    refine gf_H_0_4 f_Hou_30 d_Hou_feed_52 ?_
    refine j_iload d_Hou_feed_55 rfl ?_
    refine v_call1 d_Hou_feed_57 c_Hou_127 rfl ⟨_, rfl, rfl⟩ (Nat.le_of_ble_eq_true rfl) (E_H_TP (fun Q2 kz => t_Tap_addNumber rf_ (by omega) (by omega) (kz _ _ _ _ _ _ _ _ rfl ?_)) rfl)
    refine j_aload_n d_Hou_feed_60 rfl ?_
    refine gf_H_0_4 f_Hou_30 d_Hou_feed_61 ?_
    refine gf_H_19_1 f_Hou_124 d_Hou_feed_64 ?_
    exact z_iret rfl d_Hou_feed_67 rfl (hyes (by omega))
  · refine z_iconst d_Hou_feed_16 ?_
    exact z_iret rfl d_Hou_feed_17 rfl (hno (by omega))
theorem t_Hou_end {g : Bool} {d : Nat} {Q : List xM → Option Value → Prop} {hdn bl sp su lc fo rn rl rp pz pn fl td br dz ez rdn rlt rbr fz : Int} {rs rm rd ro tm kp by_ tk ps pv pw sk wd dk dl dg rsk wr rf : Int → Int} {qI aI bI cI gI pI yI : Nat → Int} {qF aF bF cF gF eF fF pF yF nF : Nat → Int → Int} {pr be wy : Int → Int → Int} {lx qx ax bx cx : Nat → Option Nat} {ts : List TD} {n : Int} (r1 : R32 n) (r2 : R32 pz) (ht : 0 ≤ n ∧ n ≤ pz → Q (W_H hdn bl sp su lc fo rn rl rp n pn fl td br dz ez rdn rlt rbr fz rs rm rd ro tm kp by_ tk ps pv pw sk wd dk dl dg rsk wr rf qI aI bI cI gI pI yI qF aF bF cF gF eF fF pF yF nF pr be wy lx qx ax bx cx ts) (some (.int (ii n)))) (hf : ¬ (0 ≤ n ∧ n ≤ pz) → Q (W_H hdn bl sp su lc fo rn rl rp pz pn fl td br dz ez rdn rlt rbr fz rs rm rd ro tm kp by_ tk ps pv pw sk wd dk dl dg rsk wr rf qI aI bI cI gI pI yI qF aF bF cF gF eF fF pF yF nF pr be wy lx qx ax bx cx ts) (some (.int (ii (-1))))) : CT g m_Hou_end d [.ref 0, .int (ii n)] (W_H hdn bl sp su lc fo rn rl rp pz pn fl td br dz ez rdn rlt rbr fz rs rm rd ro tm kp by_ tk ps pv pw sk wd dk dl dg rsk wr rf qI aI bI cI gI pI yI qF aF bF cF gF eF fF pF yF nF pr be wy lx qx ax bx cx ts) 0 0 Q := by
  refine CT.of (by decide) (Nat.le_of_ble_eq_true rfl) ?_
  show SJ _ _ _ _ [some (.ref 0), some (.int (ii n))] [] _ _ _ _
  refine j_iload_n d_Hou_end_0 rfl ?_
  refine z_if_lt (t := 15) d_Hou_end_1 (by decide) (by first | omega | exact hw _ | exact hx _ _ | assumption) (fun h1 => ?_) (fun h1 => ?_)
  · refine z_iconst d_Hou_end_15 ?_
    exact z_iret rfl d_Hou_end_16 rfl (hf (by omega))
  · refine j_iload_n d_Hou_end_4 rfl ?_
    refine j_aload_n d_Hou_end_5 rfl ?_
    refine gf_H_0_4 f_Hou_30 d_Hou_end_6 ?_
    refine gf_H_19_1 f_Hou_124 d_Hou_end_9 ?_
    refine z_icmp_le (t := 17) d_Hou_end_12 (by decide) (by first | omega | exact hw _ | exact hx _ _ | assumption) (by first | omega | exact hw _ | exact hx _ _ | assumption) (fun h12 => ?_) (fun h12 => ?_)
    · refine j_aload_n d_Hou_end_17 rfl ?_
      refine gf_H_0_4 f_Hou_30 d_Hou_end_18 ?_
      refine j_iload_n d_Hou_end_21 rfl ?_
      refine pf_H_19_1 f_Hou_124 d_Hou_end_22 ?_
      refine j_iload_n d_Hou_end_25 rfl ?_
      exact z_iret rfl d_Hou_end_26 rfl (ht (by omega))
    · refine z_iconst d_Hou_end_15 ?_
      exact z_iret rfl d_Hou_end_16 rfl (hf (by omega))
theorem t_Hou_blots {g : Bool} {d : Nat} {Q : List xM → Option Value → Prop} {hdn bl sp su lc fo rn rl rp pz pn fl td br dz ez rdn rlt rbr fz : Int} {rs rm rd ro tm kp by_ tk ps pv pw sk wd dk dl dg rsk wr rf : Int → Int} {qI aI bI cI gI pI yI : Nat → Int} {qF aF bF cF gF eF fF pF yF nF : Nat → Int → Int} {pr be wy : Int → Int → Int} {lx qx ax bx cx : Nat → Option Nat} {ts : List TD} (hQ : Q (W_H hdn bl sp su lc fo rn rl rp pz pn fl td br dz ez rdn rlt rbr fz rs rm rd ro tm kp by_ tk ps pv pw sk wd dk dl dg rsk wr rf qI aI bI cI gI pI yI qF aF bF cF gF eF fF pF yF nF pr be wy lx qx ax bx cx ts) (some (.int (ii bl)))) : CT g m_Hou_blots d [.ref 0] (W_H hdn bl sp su lc fo rn rl rp pz pn fl td br dz ez rdn rlt rbr fz rs rm rd ro tm kp by_ tk ps pv pw sk wd dk dl dg rsk wr rf qI aI bI cI gI pI yI qF aF bF cF gF eF fF pF yF nF pr be wy lx qx ax bx cx ts) 0 0 Q := by
  refine CT.of (by decide) (Nat.le_of_ble_eq_true rfl) ?_
  show SJ _ _ _ _ [some (.ref 0)] [] _ _ _ _
  refine j_aload_n d_Hou_blots_0 rfl ?_
  refine gf_H_0_14 f_Hou_95 d_Hou_blots_1 ?_
  exact z_iret rfl d_Hou_blots_4 (by first | rfl | omega | simp_all) hQ
theorem t_Hou_fault {g : Bool} {d : Nat} {Q : List xM → Option Value → Prop} {hdn bl sp su lc fo rn rl rp pz pn fl td br dz ez rdn rlt rbr fz : Int} {rs rm rd ro tm kp by_ tk ps pv pw sk wd dk dl dg rsk wr rf : Int → Int} {qI aI bI cI gI pI yI : Nat → Int} {qF aF bF cF gF eF fF pF yF nF : Nat → Int → Int} {pr be wy : Int → Int → Int} {lx qx ax bx cx : Nat → Option Nat} {ts : List TD} (hQ : Q (W_H hdn bl sp su lc fo rn rl rp pz pn fl td br dz ez rdn rlt rbr fz rs rm rd ro tm kp by_ tk ps pv pw sk wd dk dl dg rsk wr rf qI aI bI cI gI pI yI qF aF bF cF gF eF fF pF yF nF pr be wy lx qx ax bx cx ts) (some (.int (ii fl)))) : CT g m_Hou_fault d [.ref 0] (W_H hdn bl sp su lc fo rn rl rp pz pn fl td br dz ez rdn rlt rbr fz rs rm rd ro tm kp by_ tk ps pv pw sk wd dk dl dg rsk wr rf qI aI bI cI gI pI yI qF aF bF cF gF eF fF pF yF nF pr be wy lx qx ax bx cx ts) 0 0 Q := by
  refine CT.of (by decide) (Nat.le_of_ble_eq_true rfl) ?_
  show SJ _ _ _ _ [some (.ref 0)] [] _ _ _ _
  refine j_aload_n d_Hou_fault_0 rfl ?_
  refine gf_H_0_5 f_Hou_39 d_Hou_fault_1 ?_
  refine gf_H_25_1 f_Hou_174 d_Hou_fault_4 ?_
  exact z_iret rfl d_Hou_fault_7 (by first | rfl | omega | simp_all) hQ
theorem t_Hou_stopped {g : Bool} {d : Nat} {Q : List xM → Option Value → Prop} {hdn bl sp su lc fo rn rl rp pz pn fl td br dz ez rdn rlt rbr fz : Int} {rs rm rd ro tm kp by_ tk ps pv pw sk wd dk dl dg rsk wr rf : Int → Int} {qI aI bI cI gI pI yI : Nat → Int} {qF aF bF cF gF eF fF pF yF nF : Nat → Int → Int} {pr be wy : Int → Int → Int} {lx qx ax bx cx : Nat → Option Nat} {ts : List TD} (hQ : Q (W_H hdn bl sp su lc fo rn rl rp pz pn fl td br dz ez rdn rlt rbr fz rs rm rd ro tm kp by_ tk ps pv pw sk wd dk dl dg rsk wr rf qI aI bI cI gI pI yI qF aF bF cF gF eF fF pF yF nF pr be wy lx qx ax bx cx ts) (some (.int (ii sp)))) : CT g m_Hou_stopped d [.ref 0] (W_H hdn bl sp su lc fo rn rl rp pz pn fl td br dz ez rdn rlt rbr fz rs rm rd ro tm kp by_ tk ps pv pw sk wd dk dl dg rsk wr rf qI aI bI cI gI pI yI qF aF bF cF gF eF fF pF yF nF pr be wy lx qx ax bx cx ts) 0 0 Q := by
  refine CT.of (by decide) (Nat.le_of_ble_eq_true rfl) ?_
  show SJ _ _ _ _ [some (.ref 0)] [] _ _ _ _
  refine j_aload_n d_Hou_stopped_0 rfl ?_
  refine gf_H_0_15 f_Hou_99 d_Hou_stopped_1 ?_
  exact z_iret rfl d_Hou_stopped_4 (by first | rfl | omega | simp_all) hQ
theorem t_Hou_status {g : Bool} {d : Nat} {Q : List xM → Option Value → Prop} {hdn bl sp su lc fo rn rl rp pz pn fl td br dz ez rdn rlt rbr fz : Int} {rs rm rd ro tm kp by_ tk ps pv pw sk wd dk dl dg rsk wr rf : Int → Int} {qI aI bI cI gI pI yI : Nat → Int} {qF aF bF cF gF eF fF pF yF nF : Nat → Int → Int} {pr be wy : Int → Int → Int} {lx qx ax bx cx : Nat → Option Nat} {ts : List TD} (hQ : Q (W_H hdn bl sp su lc fo rn rl rp pz pn fl td br dz ez rdn rlt rbr fz rs rm rd ro tm kp by_ tk ps pv pw sk wd dk dl dg rsk wr rf qI aI bI cI gI pI yI qF aF bF cF gF eF fF pF yF nF pr be wy lx qx ax bx cx ts) (some (.int (ii su)))) : CT g m_Hou_status d [.ref 0] (W_H hdn bl sp su lc fo rn rl rp pz pn fl td br dz ez rdn rlt rbr fz rs rm rd ro tm kp by_ tk ps pv pw sk wd dk dl dg rsk wr rf qI aI bI cI gI pI yI qF aF bF cF gF eF fF pF yF nF pr be wy lx qx ax bx cx ts) 0 0 Q := by
  refine CT.of (by decide) (Nat.le_of_ble_eq_true rfl) ?_
  show SJ _ _ _ _ [some (.ref 0)] [] _ _ _ _
  refine j_aload_n d_Hou_status_0 rfl ?_
  refine gf_H_0_16 f_Hou_102 d_Hou_status_1 ?_
  exact z_iret rfl d_Hou_status_4 (by first | rfl | omega | simp_all) hQ
theorem t_Hou_force {g : Bool} {d : Nat} {Q : List xM → Option Value → Prop} {hdn bl sp su lc fo rn rl rp pz pn fl td br dz ez rdn rlt rbr fz : Int} {rs rm rd ro tm kp by_ tk ps pv pw sk wd dk dl dg rsk wr rf : Int → Int} {qI aI bI cI gI pI yI : Nat → Int} {qF aF bF cF gF eF fF pF yF nF : Nat → Int → Int} {pr be wy : Int → Int → Int} {lx qx ax bx cx : Nat → Option Nat} {ts : List TD} {w : Int} (r1 : R32 w) (l0 : 0 ≤ lc) (l1 : lc ≤ 6) (ht : -1 ≤ w ∧ w < lc → Q (W_H hdn bl sp 0 lc w rn rl rp pz pn fl td br dz ez rdn rlt rbr fz rs rm rd ro tm kp by_ tk ps pv pw sk wd dk dl dg rsk wr rf qI aI bI cI gI pI yI qF aF bF cF gF eF fF pF yF nF pr be wy lx qx ax bx cx ts) (some (.int (ii fo)))) (hf : ¬ (-1 ≤ w ∧ w < lc) → Q (W_H hdn bl sp (-2) lc fo rn rl rp pz pn fl td br dz ez rdn rlt rbr fz rs rm rd ro tm kp by_ tk ps pv pw sk wd dk dl dg rsk wr (up rf (rix (-2)) (rf (rix (-2)) + 1)) qI aI bI cI gI pI yI qF aF bF cF gF eF fF pF yF nF pr be wy lx qx ax bx cx ts) (some (.int (ii (-2))))) : CT g m_Hou_force (d + 2) [.ref 0, .int (ii w)] (W_H hdn bl sp su lc fo rn rl rp pz pn fl td br dz ez rdn rlt rbr fz rs rm rd ro tm kp by_ tk ps pv pw sk wd dk dl dg rsk wr rf qI aI bI cI gI pI yI qF aF bF cF gF eF fF pF yF nF pr be wy lx qx ax bx cx ts) 0 0 Q := by
  refine CT.of (by decide) (Nat.le_of_ble_eq_true rfl) ?_
  show SJ _ _ _ _ [some (.ref 0), some (.int (ii w)), none] [] _ _ _ _
  refine j_aload_n d_Hou_force_0 rfl ?_
  refine gf_H_0_0 f_Hou_12 d_Hou_force_1 ?_
  refine j_iload_n d_Hou_force_4 rfl ?_
  refine v_call1 d_Hou_force_5 c_Hou_177 rfl ⟨_, rfl, rfl⟩ (Nat.le_of_ble_eq_true rfl) (E_H_SH (fun Q2 kz => t_Sta_hasLaw r1 l0 l1 (fun h5 => kz _ rfl ?_) (fun h5 => kz _ rfl ?_)) rfl)
  · refine z_if_ne (t := 18) d_Hou_force_8 (by decide) (by first | omega | exact hw _ | exact hx _ _ | assumption) (fun _ => ?_) (fun h => absurd h (by decide))
    refine j_aload_n d_Hou_force_18 rfl ?_
    refine gf_H_0_0 f_Hou_12 d_Hou_force_19 ?_
    refine gf_H_1_4 f_Hou_181 d_Hou_force_22 ?_
    refine j_istore_n d_Hou_force_25 (by decide) ?_
    show SJ _ _ _ _ [_, _, _] _ _ _ _ _
    refine j_aload_n d_Hou_force_26 rfl ?_
    refine gf_H_0_0 f_Hou_12 d_Hou_force_27 ?_
    refine j_iload_n d_Hou_force_30 rfl ?_
    refine pf_H_1_4 f_Hou_181 d_Hou_force_31 ?_
    refine j_aload_n d_Hou_force_34 rfl ?_
    refine j_iload_n d_Hou_force_35 rfl ?_
    refine v_call1 d_Hou_force_36 c_Hou_121 rfl ⟨_, rfl, rfl⟩ (Nat.le_of_ble_eq_true rfl) (t_Hou_grant  ?_)
    exact z_iret rfl d_Hou_force_39 rfl (ht h5)
  · refine z_if_ne (t := 18) d_Hou_force_8 (by decide) (by first | omega | exact hw _ | exact hx _ _ | assumption) (fun h => absurd h (by decide)) (fun _ => ?_)
    refine j_aload_n d_Hou_force_11 rfl ?_
    refine z_bipush d_Hou_force_12 (by decide) ?_
    refine v_call1 d_Hou_force_14 c_Hou_111 rfl ⟨_, rfl, rfl⟩ (Nat.le_of_ble_eq_true rfl) (t_Hou_refuse (by omega) (by omega) ?_)
    exact z_iret rfl d_Hou_force_17 rfl (hf h5)
theorem t_H_lawOf {g : Bool} {d : Nat} {Q : List xM → Option Value → Prop} {hdn bl sp su lc fo rn rl rp pz pn fl td br dz ez rdn rlt rbr fz : Int} {rs rm rd ro tm kp by_ tk ps pv pw sk wd dk dl dg rsk wr rf : Int → Int} {qI aI bI cI gI pI yI : Nat → Int} {qF aF bF cF gF eF fF pF yF nF : Nat → Int → Int} {pr be wy : Int → Int → Int} {lx qx ax bx cx : Nat → Option Nat} {ts : List TD} {K : Int → Int} (hK : KR K) (hL : LB K lx ts) (hlc : lc = K 24) {w : Int} (w0 : -1 ≤ w) (w1 : w < lc) (hQ : ∀ lv, LV (up K 25 w) 148 ts lv → Q (W_H hdn bl sp su lc fo rn rl rp pz pn fl td br dz ez rdn rlt rbr fz rs rm rd ro tm kp by_ tk ps pv pw sk wd dk dl dg rsk wr rf qI aI bI cI gI pI yI qF aF bF cF gF eF fF pF yF nF pr be wy lx qx ax bx cx ts) (some lv)) : CT g m_Sta_lawOf d [.ref 1, .int (ii w)] (W_H hdn bl sp su lc fo rn rl rp pz pn fl td br dz ez rdn rlt rbr fz rs rm rd ro tm kp by_ tk ps pv pw sk wd dk dl dg rsk wr rf qI aI bI cI gI pI yI qF aF bF cF gF eF fF pF yF nF pr be wy lx qx ax bx cx ts) 0 0 Q := by
  refine CT.of (by decide) (Nat.le_of_ble_eq_true rfl) ?_
  show SJ _ _ _ _ [some (.ref 1), some (.int (ii w))] [] _ _ _ _
  have hk24 := hK.2.2.2.2.2.1
  refine j_iload_n d_Sta_lawOf_0 rfl ?_
  refine z_if_lt (t := 21) d_Sta_lawOf_1 (by decide) (by first | omega | exact hw _ | exact hx _ _ | assumption) (fun h1 => ?_) (fun h1 => ?_)
  · refine j_null d_Sta_lawOf_21 ?_
    exact j_areturn rfl (Or.inl ⟨_, rfl⟩) (Or.inl rfl) d_Sta_lawOf_22 (hQ _ (Or.inl ⟨rfl, by rw [up_eq]; omega⟩))
  · refine j_iload_n d_Sta_lawOf_4 rfl ?_
    refine j_aload_n d_Sta_lawOf_5 rfl ?_
    refine gf_H_1_3 f_Sta_28 d_Sta_lawOf_6 ?_
    refine z_icmp_ge (t := 21) d_Sta_lawOf_9 (by decide) (by first | omega | exact hw _ | exact hx _ _ | assumption) (by first | omega | exact hw _ | exact hx _ _ | assumption) (fun h9 => ?_) (fun h9 => ?_)
    · refine j_null d_Sta_lawOf_21 ?_
      exact j_areturn rfl (Or.inl ⟨_, rfl⟩) (Or.inl rfl) d_Sta_lawOf_22 (hQ _ (Or.inl ⟨rfl, by rw [up_eq]; omega⟩))
    · refine j_aload_n d_Sta_lawOf_12 rfl ?_
      refine gf_H_1_2 f_Sta_24 d_Sta_lawOf_13 ?_
      refine j_iload_n d_Sta_lawOf_16 rfl ?_
      refine z_aald d_Sta_lawOf_17 rfl (Or.inl rfl) (by omega) (by omega) (by omega) ?_
      refine j_goto (t := 22) d_Sta_lawOf_18 (by decide) ?_
      obtain ⟨j, t, e1, e2, e3⟩ := hL.2.2 w (by omega) (by omega)
      rw [show lwR 148 lx w.toNat = some (148 + 8 * j) by unfold lwR; rw [e1]; rfl]
      exact j_areturn rfl (Or.inl ⟨_, rfl⟩) (Or.inr ⟨_, rfl⟩) d_Sta_lawOf_22 (hQ _ (Or.inr ⟨j, t, rfl, e2, LWok.rel (hK.same (fun j hj => up_ne hj) (by rw [up_eq]; omega)) (by rw [up_eq]; omega) (by rw [up_eq]; exact e3.same (by omega) (fun j hj => up_ne (by omega)))⟩))
theorem t_H_isBarred {g : Bool} {d : Nat} {Q : List xM → Option Value → Prop} {hdn bl sp su lc fo rn rl rp pz pn fl td br dz ez rdn rlt rbr fz : Int} {rs rm rd ro tm kp by_ tk ps pv pw sk wd dk dl dg rsk wr rf : Int → Int} {qI aI bI cI gI pI yI : Nat → Int} {qF aF bF cF gF eF fF pF yF nF : Nat → Int → Int} {pr be wy : Int → Int → Int} {lx qx ax bx cx : Nat → Option Nat} {ts : List TD} {K : Int → Int} (hn_ : rn = K 0) (ht0 : tm 0 = K 21) (ht2 : tm 2 = K 23) {lv : Value} (hLV : LV K 148 ts lv) {s p : Int} (s0 : 0 ≤ s) (s1 : s ≤ 11) (p0 : 0 ≤ p) (p1 : p ≤ 20) (ht : tl K 4 s p 0 = 1 → ∀ td br sk wd, Q (W_H hdn bl sp su lc fo rn rl rp pz pn fl td br dz ez rdn rlt rbr fz rs rm rd ro tm kp by_ tk ps pv pw sk wd dk dl dg rsk wr rf qI aI bI cI gI pI yI qF aF bF cF gF eF fF pF yF nF pr be wy lx qx ax bx cx ts) (some (.int (ii 1)))) (hf : ¬ tl K 4 s p 0 = 1 → ∀ td br sk wd, Q (W_H hdn bl sp su lc fo rn rl rp pz pn fl td br dz ez rdn rlt rbr fz rs rm rd ro tm kp by_ tk ps pv pw sk wd dk dl dg rsk wr rf qI aI bI cI gI pI yI qF aF bF cF gF eF fF pF yF nF pr be wy lx qx ax bx cx ts) (some (.int (ii 0)))) : CT g m_Ask_isBarred (d + 3) [.ref 34, .ref 1, lv, .int (ii s), .int (ii p)] (W_H hdn bl sp su lc fo rn rl rp pz pn fl td br dz ez rdn rlt rbr fz rs rm rd ro tm kp by_ tk ps pv pw sk wd dk dl dg rsk wr rf qI aI bI cI gI pI yI qF aF bF cF gF eF fF pF yF nF pr be wy lx qx ax bx cx ts) 0 0 Q := by
  rcases hLV with ⟨rfl, h25⟩ | ⟨j, t, rfl, hj, hr⟩
  · exact E_H_D (fun Q2 kz => t_D_isBarred hn_ ht0 ht2 (lv := .null) (Or.inl ⟨rfl, h25⟩) s0 s1 p0 p1 (fun h a b c e => kz _ _ _ _ _ _ _ _ _ _ _ _ _ _ _ _ _ rfl (ht h _ _ _ _)) (fun h a b c e => kz _ _ _ _ _ _ _ _ _ _ _ _ _ _ _ _ _ rfl (hf h _ _ _ _))) rfl
  · exact E_H_D (fun Q2 kz => t_D_isBarred hn_ ht0 ht2 (lv := .ref (16 + 8 * j)) (Or.inr ⟨j, t, rfl, hj, hr⟩) s0 s1 p0 p1 (fun h a b c e => kz _ _ _ _ _ _ _ _ _ _ _ _ _ _ _ _ _ rfl (ht h _ _ _ _)) (fun h a b c e => kz _ _ _ _ _ _ _ _ _ _ _ _ _ _ _ _ _ rfl (hf h _ _ _ _))) (by show [_, _, Value.ref (148 + 8 * j), _, _] = [_, _, Value.ref (sgt _ 148 (16 + 8 * j)), _, _]; rw [sgt_at (n := 16) rfl]; rfl)
theorem t_H_amount {g : Bool} {d : Nat} {Q : List xM → Option Value → Prop} {hdn bl sp su lc fo rn rl rp pz pn fl td br dz ez rdn rlt rbr fz : Int} {rs rm rd ro tm kp by_ tk ps pv pw sk wd dk dl dg rsk wr rf : Int → Int} {qI aI bI cI gI pI yI : Nat → Int} {qF aF bF cF gF eF fF pF yF nF : Nat → Int → Int} {pr be wy : Int → Int → Int} {lx qx ax bx cx : Nat → Option Nat} {ts : List TD} {K : Int → Int} (hn_ : rn = K 0) (ht0 : tm 0 = K 21) (ht2 : tm 2 = K 23) {lv : Value} (hLV : LV K 148 ts lv) {what : Int} (w0 : 0 ≤ what) (w1 : what ≤ 2) {s p : Int} (s0 : 0 ≤ s) (s1 : s ≤ 11) (p0 : 0 ≤ p) (p1 : p ≤ 20) (hQ : ∀ td br sk wd, Q (W_H hdn bl sp su lc fo rn rl rp pz pn fl td br dz ez rdn rlt rbr fz rs rm rd ro tm kp by_ tk ps pv pw sk wd dk dl dg rsk wr rf qI aI bI cI gI pI yI qF aF bF cF gF eF fF pF yF nF pr be wy lx qx ax bx cx ts) (some (.int (ii (tl K (what + 1) s p 1))))) : CT g m_Ask_amount (d + 3) [.ref 34, .ref 1, lv, .int (ii what), .int (ii s), .int (ii p)] (W_H hdn bl sp su lc fo rn rl rp pz pn fl td br dz ez rdn rlt rbr fz rs rm rd ro tm kp by_ tk ps pv pw sk wd dk dl dg rsk wr rf qI aI bI cI gI pI yI qF aF bF cF gF eF fF pF yF nF pr be wy lx qx ax bx cx ts) 0 0 Q := by
  rcases hLV with ⟨rfl, h25⟩ | ⟨j, t, rfl, hj, hr⟩
  · exact E_H_D (fun Q2 kz => t_D_amount hn_ ht0 ht2 (lv := .null) (Or.inl ⟨rfl, h25⟩) w0 w1 s0 s1 p0 p1 (fun a b c e => kz _ _ _ _ _ _ _ _ _ _ _ _ _ _ _ _ _ rfl (hQ _ _ _ _))) rfl
  · exact E_H_D (fun Q2 kz => t_D_amount hn_ ht0 ht2 (lv := .ref (16 + 8 * j)) (Or.inr ⟨j, t, rfl, hj, hr⟩) w0 w1 s0 s1 p0 p1 (fun a b c e => kz _ _ _ _ _ _ _ _ _ _ _ _ _ _ _ _ _ rfl (hQ _ _ _ _))) (by show [_, _, Value.ref (148 + 8 * j), _, _, _] = [_, _, Value.ref (sgt _ 148 (16 + 8 * j)), _, _, _]; rw [sgt_at (n := 16) rfl]; rfl)
def akR (K : Int → Int) (s p what : Int) : Int := if ¬ ((0 ≤ s ∧ s ≤ 11) ∧ (0 ≤ p ∧ p ≤ K 0)) then -1 else if what = 0 then tl K 1 s p 1 else if what = 1 then tl K 2 s p 1 else if what = 2 then tl K 3 s p 1 else if what = 3 then (if tl K 4 s p 0 = 1 then 1 else 0) else -1
theorem up_25 {K : Int → Int} {f : Int} (h : f = K 25) : up K 25 f = K := by rw [h, up_self]
theorem t_Hou_asks {g : Bool} {d : Nat} {Q : List xM → Option Value → Prop} {hdn bl sp su lc fo rn rl rp pz pn fl td br dz ez rdn rlt rbr fz : Int} {rs rm rd ro tm kp by_ tk ps pv pw sk wd dk dl dg rsk wr rf : Int → Int} {qI aI bI cI gI pI yI : Nat → Int} {qF aF bF cF gF eF fF pF yF nF : Nat → Int → Int} {pr be wy : Int → Int → Int} {lx qx ax bx cx : Nat → Option Nat} {ts : List TD} {K : Int → Int} (hS : SI K lc fo rn rl rp rs rm rd tm) (hL : LB K lx ts) {s p what : Int} (r1 : R32 s) (r2 : R32 p) (r3 : R32 what) (hQ : ∀ td br sk wd, Q (W_H hdn bl sp su lc fo rn rl rp pz pn fl td br dz ez rdn rlt rbr fz rs rm rd ro tm kp by_ tk ps pv pw sk wd dk dl dg rsk wr rf qI aI bI cI gI pI yI qF aF bF cF gF eF fF pF yF nF pr be wy lx qx ax bx cx ts) (some (.int (ii (akR K s p what))))) : CT g m_Hou_asks (d + 4) [.ref 0, .int (ii s), .int (ii p), .int (ii what)] (W_H hdn bl sp su lc fo rn rl rp pz pn fl td br dz ez rdn rlt rbr fz rs rm rd ro tm kp by_ tk ps pv pw sk wd dk dl dg rsk wr rf qI aI bI cI gI pI yI qF aF bF cF gF eF fF pF yF nF pr be wy lx qx ax bx cx ts) 0 0 Q := by
  refine CT.of (by decide) (Nat.le_of_ble_eq_true rfl) ?_
  show SJ _ _ _ _ [some (.ref 0), some (.int (ii s)), some (.int (ii p)), some (.int (ii what)), none] [] _ _ _ _
  have hKR := hS.2.1
  have hKK := hL.kok hKR
  have hLX := hL.lxE hKR
  have hn20 := hKR.1
  obtain ⟨hR, -, htm0, htm1, htm2, hlc, hfo⟩ := id hS
  obtain ⟨hrn, ⟨hn0, hn1⟩, hrs, hrp, hpu⟩ := id hR
  have hf25 := hKR.2.2.2.2.2.2
  refine j_iload_n d_Hou_asks_0 rfl ?_
  refine z_if_lt (t := 28) d_Hou_asks_1 (by decide) (by first | omega | exact hw _ | exact hx _ _ | assumption) (fun h1 => ?_) (fun h1 => ?_)
  · refine z_iconst d_Hou_asks_28 ?_
    exact z_iret rfl d_Hou_asks_29 (by unfold akR; rw [if_pos (by omega)]) (hQ _ _ _ _)
  · refine j_iload_n d_Hou_asks_4 rfl ?_
    refine z_bipush d_Hou_asks_5 (by decide) ?_
    refine z_icmp_ge (t := 28) d_Hou_asks_7 (by decide) (by first | omega | exact hw _ | exact hx _ _ | assumption) (by first | omega | exact hw _ | exact hx _ _ | assumption) (fun h7 => ?_) (fun h7 => ?_)
    · refine z_iconst d_Hou_asks_28 ?_
      exact z_iret rfl d_Hou_asks_29 (by unfold akR; rw [if_pos (by omega)]) (hQ _ _ _ _)
    · refine j_iload_n d_Hou_asks_10 rfl ?_
      refine z_if_lt (t := 28) d_Hou_asks_11 (by decide) (by first | omega | exact hw _ | exact hx _ _ | assumption) (fun h11 => ?_) (fun h11 => ?_)
      · refine z_iconst d_Hou_asks_28 ?_
        exact z_iret rfl d_Hou_asks_29 (by unfold akR; rw [if_pos (by omega)]) (hQ _ _ _ _)
      · refine j_iload_n d_Hou_asks_14 rfl ?_
        refine j_aload_n d_Hou_asks_15 rfl ?_
        refine gf_H_0_0 f_Hou_12 d_Hou_asks_16 ?_
        refine gf_H_1_0 f_Hou_134 d_Hou_asks_19 ?_
        refine gf_H_2_1 f_Hou_138 d_Hou_asks_22 ?_
        refine z_icmp_le (t := 30) d_Hou_asks_25 (by decide) (by first | omega | exact hw _ | exact hx _ _ | assumption) (by first | omega | exact hw _ | exact hx _ _ | assumption) (fun h25 => ?_) (fun h25 => ?_)
        · refine j_aload_n d_Hou_asks_30 rfl ?_
          refine gf_H_0_0 f_Hou_12 d_Hou_asks_31 ?_
          refine j_aload_n d_Hou_asks_34 rfl ?_
          refine gf_H_0_0 f_Hou_12 d_Hou_asks_35 ?_
          refine gf_H_1_4 f_Hou_181 d_Hou_asks_38 ?_
          refine v_call1 d_Hou_asks_41 c_Hou_184 rfl ⟨_, rfl, rfl⟩ (Nat.le_of_ble_eq_true rfl) (t_H_lawOf hKR hL hlc (by omega) (by omega) (fun lv hLV => ?_))
          rw [up_25 hfo] at hLV
          refine j_astoreV d_Hou_asks_44 (by decide) (LV.or hLV) ?_
          show SJ _ _ _ _ [_, _, _, _, _] _ _ _ _ _
          refine j_iload_n d_Hou_asks_46 rfl ?_
          refine z_iconst d_Hou_asks_47 ?_
          refine z_icmp_ne (t := 75) d_Hou_asks_48 (by decide) (by first | omega | exact hw _ | exact hx _ _ | assumption) (by first | omega | exact hw _ | exact hx _ _ | assumption) (fun h48 => ?_) (fun h48 => ?_)
          · refine j_iload_n d_Hou_asks_75 rfl ?_
            refine z_if_lt (t := 84) d_Hou_asks_76 (by decide) (by first | omega | exact hw _ | exact hx _ _ | assumption) (fun h76 => ?_) (fun h76 => ?_)
            · refine z_iconst d_Hou_asks_84 ?_
              refine j_goto (t := 104) d_Hou_asks_85 (by decide) ?_
              first
              | exact z_iret rfl d_Hou_asks_104 (by unfold akR; rw [if_neg (by omega), if_neg (by omega), if_neg (by omega), if_neg (by omega), if_neg (by omega)]) (hQ _ _ _ _)
              | (have hw3 : what = 0 ∨ what = 1 ∨ what = 2 := by omega
                 exact z_iret rfl d_Hou_asks_104 (by unfold akR; rw [if_neg (by omega)]; rcases hw3 with rfl | rfl | rfl <;> rfl) (hQ _ _ _ _))
            · refine j_iload_n d_Hou_asks_79 rfl ?_
              refine z_iconst d_Hou_asks_80 ?_
              refine z_icmp_le (t := 88) d_Hou_asks_81 (by decide) (by first | omega | exact hw _ | exact hx _ _ | assumption) (by first | omega | exact hw _ | exact hx _ _ | assumption) (fun h81 => ?_) (fun h81 => ?_)
              · refine j_aload_n d_Hou_asks_88 rfl ?_
                refine gf_H_0_6 f_Hou_46 d_Hou_asks_89 ?_
                refine j_aload_n d_Hou_asks_92 rfl ?_
                refine gf_H_0_0 f_Hou_12 d_Hou_asks_93 ?_
                refine j_aloadV d_Hou_asks_96 rfl (LV.or hLV) ?_
                refine j_iload_n d_Hou_asks_98 rfl ?_
                refine j_iload_n d_Hou_asks_99 rfl ?_
                refine j_iload_n d_Hou_asks_100 rfl ?_
                refine v_call5 d_Hou_asks_101 c_Hou_192 rfl ⟨_, rfl, rfl⟩ (Nat.le_of_ble_eq_true rfl) (t_H_amount hrn htm0 htm2 hLV (by omega) (by omega) (by omega) (by omega) (by omega) (by omega) (fun td2 br2 sk2 wd2 => ?_))
                first
                | exact z_iret rfl d_Hou_asks_104 (by unfold akR; rw [if_neg (by omega), if_neg (by omega), if_neg (by omega), if_neg (by omega), if_neg (by omega)]) (hQ _ _ _ _)
                | (have hw3 : what = 0 ∨ what = 1 ∨ what = 2 := by omega
                   exact z_iret rfl d_Hou_asks_104 (by unfold akR; rw [if_neg (by omega)]; rcases hw3 with rfl | rfl | rfl <;> rfl) (hQ _ _ _ _))
              · refine z_iconst d_Hou_asks_84 ?_
                refine j_goto (t := 104) d_Hou_asks_85 (by decide) ?_
                first
                | exact z_iret rfl d_Hou_asks_104 (by unfold akR; rw [if_neg (by omega), if_neg (by omega), if_neg (by omega), if_neg (by omega), if_neg (by omega)]) (hQ _ _ _ _)
                | (have hw3 : what = 0 ∨ what = 1 ∨ what = 2 := by omega
                   exact z_iret rfl d_Hou_asks_104 (by unfold akR; rw [if_neg (by omega)]; rcases hw3 with rfl | rfl | rfl <;> rfl) (hQ _ _ _ _))
          · refine j_aload_n d_Hou_asks_51 rfl ?_
            refine gf_H_0_6 f_Hou_46 d_Hou_asks_52 ?_
            refine j_aload_n d_Hou_asks_55 rfl ?_
            refine gf_H_0_0 f_Hou_12 d_Hou_asks_56 ?_
            refine j_aloadV d_Hou_asks_59 rfl (LV.or hLV) ?_
            refine j_iload_n d_Hou_asks_61 rfl ?_
            refine j_iload_n d_Hou_asks_62 rfl ?_
            refine v_call4 d_Hou_asks_63 c_Hou_188 rfl ⟨_, rfl, rfl⟩ (Nat.le_of_ble_eq_true rfl) (t_H_isBarred hrn htm0 htm2 hLV (by omega) (by omega) (by omega) (by omega) (fun h63 td2 br2 sk2 wd2 => ?_) (fun h63 td2 br2 sk2 wd2 => ?_))
            · refine z_if_eq (t := 73) d_Hou_asks_66 (by decide) (by first | omega | exact hw _ | exact hx _ _ | assumption) (fun h => absurd h (by decide)) (fun _ => ?_)
              refine z_iconst d_Hou_asks_69 ?_
              refine j_goto (t := 74) d_Hou_asks_70 (by decide) ?_
              exact z_iret rfl d_Hou_asks_74 (by unfold akR; rw [if_neg (by omega), if_neg (by omega), if_neg (by omega), if_neg (by omega), if_pos (by omega), if_pos h63]) (hQ _ _ _ _)
            · refine z_if_eq (t := 73) d_Hou_asks_66 (by decide) (by first | omega | exact hw _ | exact hx _ _ | assumption) (fun _ => ?_) (fun h => absurd h (by decide))
              refine z_iconst d_Hou_asks_73 ?_
              exact z_iret rfl d_Hou_asks_74 (by unfold akR; rw [if_neg (by omega), if_neg (by omega), if_neg (by omega), if_neg (by omega), if_pos (by omega), if_neg h63]) (hQ _ _ _ _)
        · refine z_iconst d_Hou_asks_28 ?_
          exact z_iret rfl d_Hou_asks_29 (by unfold akR; rw [if_pos (by omega)]) (hQ _ _ _ _)
