theorem ow_R {K : Int → Int} {dn lt : Int} (hk : KR K) (d0 : 0 ≤ dn ∧ dn ≤ 1000) (l0 : -1 ≤ lt ∧ lt ≤ 99) (c k : Int) : rgo (ow K dn lt c k) := by
  obtain ⟨a1, a2, a3, -, -, -, -⟩ := hk
  unfold ow
  split
  · split
    · next h => have := a2 k h.1 h.2; omega
    · omega
  · split
    · split
      · next h =>
        have := dpc_R (m := mt K) (p := k) k.toNat
        unfold dp
        omega
      · omega
    · split
      · omega
      · split
        · omega
        · split
          · omega
          · split
            · omega
            · have := lo_R (K := K) (a := 0) (b := K 0) (by omega) (by omega)
              omega
theorem ite_1 (c : Prop) [Decidable c] : ((if c then (1 : Int) else 0) = 1) ↔ c := by
  by_cases h : c
  · rw [if_pos h]; exact ⟨fun _ => h, fun _ => rfl⟩
  · rw [if_neg h]; exact ⟨fun q => absurd q (by decide), fun q => absurd q h⟩
theorem t_Mod_goes {g : Bool} {d : Nat} {Q : List xM → Option Value → Prop} {k23 i0 i6 i8 i9 i10 i13 i14 i18 i19 i20 i21 i22 i23 i24 i25 i27 i28 i33 i42 i43 i44 i45 i46 i47 i48 i51 i52 : Int} {x1 x2 x3 x4 x5 x7 x11 x12 x15 x16 x17 x26 x29 x30 x31 x32 x34 x35 x36 x37 x38 x39 x40 x41 x49 x50 : Int → Int} (hn0 : 0 ≤ x2 0) (hn1 : x2 0 ≤ 20) (hs : ∀ j, 0 ≤ j → j < x2 0 → 0 ≤ x2 (1 + j) ∧ x2 (1 + j) ≤ 11) (hC : ∀ k, 0 ≤ k → k < 2800 → 0 ≤ x2 (33 + k) ∧ x2 (33 + k) ≤ 400) (e0 : 0 ≤ i23) (e1_ : i23 ≤ 2800) {C V : Int → Int} {b N tk lv t l : Int} {q : CXC} (hTk : TkF C V (cdA x2 i23) (vlA x2) b N) (hw : ∀ c k, 14 ≤ c → c ≤ 20 → rgo (ow x2 i27 i28 c k)) (hq : pOrd C V (pS C V 1 14 20 9) (pT C V 1 14 20 9) tk lv = .inl (q, t, l)) (k0 : 0 ≤ tk) (k1 : tk ≤ N) (v0 : 0 ≤ lv) (v1 : lv ≤ 50) (e43 : i43 = b + tk) {live : Int} (hl : live = 0 ∨ live = 1) (hx0 : rgo (x49 0)) (hx1 : rgo (x49 1)) (hQ : ∀ j24 j47 j48 (y49 y29 y30 : Int → Int), (live = 1 → (j48 = 1 ↔ tstV q (ow x2 i27 i28) = some 1) ∧ (j47 = 1 ↔ (su1 q (ow x2 i27 i28)).isSome = true ∧ (su2 q (ow x2 i27 i28)).isSome = true) ∧ (∀ v, q.2.1.isSome = true → su1 q (ow x2 i27 i28) = some v → y49 0 = v) ∧ (∀ v, q.2.2.1.isSome = true → su2 q (ow x2 i27 i28) = some v → y49 1 = v)) → b01 j47 → b01 j48 → rgo (y49 0) → rgo (y49 1) → Q (MM i0 i6 i8 i9 i10 i13 i14 i18 i19 i20 i21 (b + t + 1) i23 j24 1 i27 i28 i33 i42 i43 q.2.2.2.1 q.1 i46 j47 j48 i51 i52 x1 x2 x3 x4 x5 x7 x11 x12 x15 x16 x17 x26 y29 y30 x31 x32 x34 x35 x36 x37 x38 x39 x40 x41 y49 x50) none) : CT g m_Mod_goesAlong (d + 87) [.ref 0, .int (ii i23), .int (ii live)] (MM i0 i6 i8 i9 i10 i13 i14 i18 i19 i20 i21 i22 k23 i24 i25 i27 i28 i33 i42 i43 i44 i45 i46 i47 i48 i51 i52 x1 x2 x3 x4 x5 x7 x11 x12 x15 x16 x17 x26 x29 x30 x31 x32 x34 x35 x36 x37 x38 x39 x40 x41 x49 x50) 0 0 Q := by
  have hwv : wvM 1 x26 x2 i27 i28 = ow x2 i27 i28 := wvM_1
  have hw2 : ∀ c k, 14 ≤ c → c ≤ 20 → rgo (wvM 1 x26 x2 i27 i28 c k) := by rw [hwv]; exact hw
  have hio : ((1 : Int) = 0 ∧ (14 : Int) = 9 ∧ (20 : Int) = 16) ∨ ((1 : Int) = 1 ∧ (14 : Int) = 14 ∧ (20 : Int) = 20) := Or.inr ⟨rfl, rfl, rfl⟩
  have hES := ev_S hTk hio hw2 9 9 (Nat.le_refl _)
  have hGS := pS_R (C := C) (V := V) (io := 1) (fw := 14) (lw := 20) hTk.2.1 (by decide) 9
  have hCt := hTk.2.2.1 tk k0 k1
  have hb := hTk.1
  have hlt : C tk ≠ 0 → tk < N := fun q => by
    rcases Int.lt_or_eq_of_le k1 with z | z
    · exact z
    · rw [z, hTk.2.1] at q; exact absurd rfl q
  rcases pOrd_inv hq with ⟨c, e⟩ | ⟨c, e⟩ | ⟨c, a, t1, l1, e1, e⟩ | ⟨c, e⟩ <;> have hlt2 := hlt (by omega)
  · obtain ⟨a, t1, l1, e1, c1, a2, t2, l2, e2, e3⟩ := pTwo_inv e
    have hg1 := (hGS (tk + 1) lv (by omega) (by omega) v0 v1).1 _ _ _ e1
    have hne1 : t1 ≠ N := fun e => by rw [e, hTk.2.1] at c1; omega
    have hg2 := (hGS (t1 + 1) l1 (by omega) (by omega) (by omega) (by omega)).1 _ _ _ e2
    obtain ⟨w1, b1, f1, f2, f3, f4⟩ := (hES (tk + 1) lv _ _ _ (by omega) (by omega) v0 v1 e1).exL hl
    obtain ⟨w2, b2, g1, g2, g3, g4⟩ := (hES (t1 + 1) l1 _ _ _ (by omega) (by omega) (by omega) (by omega) e2).exL hl
    obtain ⟨z3, tv, tb, y1, y2, y3, y4, y5, y6, y7, y8, y9, y10⟩ := ga_tail hTk hw2 hl e3 (by omega) (by omega) (by omega) (by omega)
    refine t_Mod_goesAlong2 (g1 := b + t1) (v1 := w1) (v2 := w2) (b1 := b1) (b2 := b2) (g2 := b + t2) (g3 := z3) (g4 := b + t) (tm := q.2.2.2.1) (tv := tv) (tb := tb) hn0 hn1 hs hC e0 e1_ hl (by omega) y1 (by omega) ?_ y4 (by rw [e43, show b + tk + 1 = b + (tk + 1) by omega]; exact f1) f2 f3 (by omega) (by rw [show b + t1 + 1 = b + (t1 + 1) by omega]; exact g1) g2 g3 (by rw [e43, hCt]; omega) (by omega) (fun y29 y30 => ?_)
    · rcases y3 with z | ⟨z1, z2, z3, z4⟩
      · exact Or.inl z
      · exact Or.inr ⟨z1, z2, by rw [z3, vlA_at (by omega) (by omega)], z4⟩
    · have hQ2 := hQ tb (if b1 = 0 ∧ b2 = 0 then 1 else 0) (if tv = 1 ∧ tb = 0 then 1 else 0) (up (up x49 0 w1) 1 w2) y29 y30 (fun q1 => ?_) ite01 ite01 (by rw [up_ne (by decide), up_eq]; exact f2) (by rw [up_eq]; exact g2)
      · rw [e43, hCt, c, ← y8]
        rw [e43] at hQ2
        exact hQ2
      · have r1 := f4 q1
        have r2 := g4 q1
        have r3 := y7 q1
        rw [hwv] at r1 r2 r3
        have u1 : su1 q (ow x2 i27 i28) = a.1 (ow x2 i27 i28) := by unfold su1; rw [y9]
        have u2 : su2 q (ow x2 i27 i28) = a2.1 (ow x2 i27 i28) := by unfold su2; rw [y10]
        rw [u1, u2]
        refine ⟨(ite_1 _).trans (rep_1 r3), (ite_1 _).trans ⟨fun z => ⟨(rep_s r1).1.mp z.1, (rep_s r2).1.mp z.2⟩, fun z => ⟨(rep_s r1).1.mpr z.1, (rep_s r2).1.mpr z.2⟩⟩, fun v _ hv => ?_, fun v _ hv => ?_⟩
        · rw [up_ne (by decide), up_eq]; exact (rep_s r1).2 v hv
        · rw [up_eq]; exact (rep_s r2).2 v hv
  · obtain ⟨a, t1, l1, e1, c1, a2, t2, l2, e2, e3⟩ := pTwo_inv e
    have hg1 := (hGS (tk + 1) lv (by omega) (by omega) v0 v1).1 _ _ _ e1
    have hne1 : t1 ≠ N := fun e => by rw [e, hTk.2.1] at c1; omega
    have hg2 := (hGS (t1 + 1) l1 (by omega) (by omega) (by omega) (by omega)).1 _ _ _ e2
    obtain ⟨w1, b1, f1, f2, f3, f4⟩ := (hES (tk + 1) lv _ _ _ (by omega) (by omega) v0 v1 e1).exL hl
    obtain ⟨w2, b2, g1, g2, g3, g4⟩ := (hES (t1 + 1) l1 _ _ _ (by omega) (by omega) (by omega) (by omega) e2).exL hl
    obtain ⟨z3, tv, tb, y1, y2, y3, y4, y5, y6, y7, y8, y9, y10⟩ := ga_tail hTk hw2 hl e3 (by omega) (by omega) (by omega) (by omega)
    refine t_Mod_goesAlong2 (g1 := b + t1) (v1 := w1) (v2 := w2) (b1 := b1) (b2 := b2) (g2 := b + t2) (g3 := z3) (g4 := b + t) (tm := q.2.2.2.1) (tv := tv) (tb := tb) hn0 hn1 hs hC e0 e1_ hl (by omega) y1 (by omega) ?_ y4 (by rw [e43, show b + tk + 1 = b + (tk + 1) by omega]; exact f1) f2 f3 (by omega) (by rw [show b + t1 + 1 = b + (t1 + 1) by omega]; exact g1) g2 g3 (by rw [e43, hCt]; omega) (by omega) (fun y29 y30 => ?_)
    · rcases y3 with z | ⟨z1, z2, z3, z4⟩
      · exact Or.inl z
      · exact Or.inr ⟨z1, z2, by rw [z3, vlA_at (by omega) (by omega)], z4⟩
    · have hQ2 := hQ tb (if b1 = 0 ∧ b2 = 0 then 1 else 0) (if tv = 1 ∧ tb = 0 then 1 else 0) (up (up x49 0 w1) 1 w2) y29 y30 (fun q1 => ?_) ite01 ite01 (by rw [up_ne (by decide), up_eq]; exact f2) (by rw [up_eq]; exact g2)
      · rw [e43, hCt, c, ← y8]
        rw [e43] at hQ2
        exact hQ2
      · have r1 := f4 q1
        have r2 := g4 q1
        have r3 := y7 q1
        rw [hwv] at r1 r2 r3
        have u1 : su1 q (ow x2 i27 i28) = a.1 (ow x2 i27 i28) := by unfold su1; rw [y9]
        have u2 : su2 q (ow x2 i27 i28) = a2.1 (ow x2 i27 i28) := by unfold su2; rw [y10]
        rw [u1, u2]
        refine ⟨(ite_1 _).trans (rep_1 r3), (ite_1 _).trans ⟨fun z => ⟨(rep_s r1).1.mp z.1, (rep_s r2).1.mp z.2⟩, fun z => ⟨(rep_s r1).1.mpr z.1, (rep_s r2).1.mpr z.2⟩⟩, fun v _ hv => ?_, fun v _ hv => ?_⟩
        · rw [up_ne (by decide), up_eq]; exact (rep_s r1).2 v hv
        · rw [up_eq]; exact (rep_s r2).2 v hv
  · have hg1 := (hGS (tk + 1) lv (by omega) (by omega) v0 v1).1 _ _ _ e1
    obtain ⟨w1, b1, f1, f2, f3, f4⟩ := (hES (tk + 1) lv _ _ _ (by omega) (by omega) v0 v1 e1).exL hl
    obtain ⟨z3, tv, tb, y1, y2, y3, y4, y5, y6, y7, y8, y9, y10⟩ := ga_tail hTk hw2 hl e (by omega) (by omega) (by omega) (by omega)
    refine t_Mod_goesAlong1 (g1 := b + t1) (v1 := w1) (b1 := b1) (g2 := b + t1) (g3 := z3) (g4 := b + t) (tm := q.2.2.2.1) (tv := tv) (tb := tb) hn0 hn1 hs hC e0 e1_ hl (by omega) y1 (by omega) ?_ y4 (by rw [e43, show b + tk + 1 = b + (tk + 1) by omega]; exact f1) f2 f3 ?_ rfl (by rw [e43, hCt]; exact c) (by omega) (fun y29 y30 => ?_)
    · rcases y3 with z | ⟨z1, z2, z3, z4⟩
      · exact Or.inl z
      · exact Or.inr ⟨z1, z2, by rw [z3, vlA_at (by omega) (by omega)], z4⟩
    · omega
    · have hQ2 := hQ tb (if b1 = 0 then 1 else 0) (if tv = 1 ∧ tb = 0 then 1 else 0) (up x49 0 w1) y29 y30 (fun q1 => ?_) ite01 ite01 (by rw [up_eq]; exact f2) (by rw [up_ne (by decide)]; exact hx1)
      · rw [e43, hCt, c, ← y8]
        rw [e43] at hQ2
        exact hQ2
      · have r1 := f4 q1
        have r3 := y7 q1
        rw [hwv] at r1 r3
        have u1 : su1 q (ow x2 i27 i28) = a.1 (ow x2 i27 i28) := by unfold su1; rw [y9]
        have u2 : su2 q (ow x2 i27 i28) = some 0 := by unfold su2; rw [y10]
        rw [u1, u2]
        refine ⟨(ite_1 _).trans (rep_1 r3), (ite_1 _).trans ⟨fun z => ⟨(rep_s r1).1.mp z, rfl⟩, fun z => (rep_s r1).1.mpr z.1⟩, fun v _ hv => ?_, fun v z _ => ?_⟩
        · rw [up_eq]; exact (rep_s r1).2 v hv
        · rw [y10] at z; cases z
  · obtain ⟨z3, tv, tb, y1, y2, y3, y4, y5, y6, y7, y8, y9, y10⟩ := ga_tail hTk hw2 hl e (by omega) (by omega) v0 v1
    refine t_Mod_goesAlong0 (g2 := b + (tk + 1)) (g3 := z3) (g4 := b + t) (tm := q.2.2.2.1) (tv := tv) (tb := tb) hn0 hn1 hs hC e0 e1_ hl (by omega) y1 (by omega) ?_ y4 (by omega) (by rw [e43, hCt]; exact c) (by omega) (fun y29 y30 => ?_)
    · rcases y3 with z | ⟨z1, z2, z3, z4⟩
      · exact Or.inl z
      · exact Or.inr ⟨z1, z2, by rw [z3, vlA_at (by omega) (by omega)], z4⟩
    · have hQ2 := hQ tb 1 (if tv = 1 ∧ tb = 0 then 1 else 0) x49 y29 y30 (fun q1 => ?_) (Or.inr rfl) ite01 hx0 hx1
      · rw [e43, hCt, c, ← y8]
        rw [e43] at hQ2
        exact hQ2
      · have r3 := y7 q1
        rw [hwv] at r3
        have u1 : su1 q (ow x2 i27 i28) = some 0 := by unfold su1; rw [y9]
        have u2 : su2 q (ow x2 i27 i28) = some 0 := by unfold su2; rw [y10]
        rw [u1, u2]
        refine ⟨(ite_1 _).trans (rep_1 r3), ⟨fun _ => ⟨rfl, rfl⟩, fun _ => rfl⟩, fun v z _ => ?_, fun v z _ => ?_⟩
        · rw [y9] at z; cases z
        · rw [y10] at z; cases z
theorem t_Mod_smallS {g : Bool} {d : Nat} {Q : List xM → Option Value → Prop} {mem : List xM} {v : Int} (r1 : rgo v) (hQ : Q mem (some (.int (ii (sm v))))) : CT g m_Mod_small d [.long (ll v)] mem 0 0 Q :=
  t_Mod_small (by omega) (fun h => by unfold sm at hQ; rw [if_neg h] at hQ; exact hQ) (fun h => by unfold sm at hQ; rw [if_pos h] at hQ; exact hQ)
theorem t_Mod_obeys {g : Bool} {d : Nat} {Q : List xM → Option Value → Prop} {i0 i6 i8 i9 i10 i13 i14 i18 i19 i20 i21 i22 i23 i24 i25 i27 i28 i33 i42 i43 i44 i45 i46 i47 i48 i51 i52 : Int} {x1 x2 x3 x4 x5 x7 x11 x12 x15 x16 x17 x26 x29 x30 x31 x32 x34 x35 x36 x37 x38 x39 x40 x41 x49 x50 : Int → Int} (hk : KOK x2) (u0 : 0 ≤ i33) (u1 : i33 ≤ 16) (hhd : i45 = 21 ∨ i45 = 23 ∨ i45 = 24 ∨ i45 = 26) (hx0 : rgo (x49 0)) (hx1 : rgo (x49 1)) (hno : obK i45 (x49 0) (x49 1) (x2, x31, i33, i27, i28) = none → ∀ r, R32 r → r < 0 → ∀ j22 j23 j24 j25 y26 y29 y30, Q (MM i0 i6 i8 i9 i10 i13 i14 i18 i19 i20 i21 j22 j23 j24 j25 i27 i28 i33 i42 i43 i44 i45 i46 i47 i48 i51 i52 x1 x2 x3 x4 x5 x7 x11 x12 x15 x16 x17 y26 y29 y30 x31 x32 x34 x35 x36 x37 x38 x39 x40 x41 x49 x50) (some (.int (ii r)))) (hyes : ∀ T : OS, obK i45 (x49 0) (x49 1) (x2, x31, i33, i27, i28) = some T → ∀ r, R32 r → 0 ≤ r → ∀ j22 j23 j24 j25 y26 y29 y30, Q (MM i0 i6 i8 i9 i10 i13 i14 i18 i19 i20 i21 j22 j23 j24 j25 i27 T.2.2.2.2 T.2.2.1 i42 i43 i44 i45 i46 i47 i48 i51 i52 x1 T.1 x3 x4 x5 x7 x11 x12 x15 x16 x17 y26 y29 y30 T.2.1 x32 x34 x35 x36 x37 x38 x39 x40 x41 x49 x50) (some (.int (ii r))))  : CT g m_Mod_obeys (d + 90) [.ref 0] (MM i0 i6 i8 i9 i10 i13 i14 i18 i19 i20 i21 i22 i23 i24 i25 i27 i28 i33 i42 i43 i44 i45 i46 i47 i48 i51 i52 x1 x2 x3 x4 x5 x7 x11 x12 x15 x16 x17 x26 x29 x30 x31 x32 x34 x35 x36 x37 x38 x39 x40 x41 x49 x50) 0 0 Q := by
  refine CT.of (by decide) (Nat.le_of_ble_eq_true rfl) ?_
  show SJ _ _ _ _ [some (.ref 0), none, none] [] _ _ _ _
  have hs0 := sm_R (x49 0)
  have hs1 := sm_R (x49 1)
  refine j_aload_n d_Mod_obeys_0 rfl ?_
  refine mg_sums f_Mod_110 d_Mod_obeys_1 ?_
  refine z_iconst d_Mod_obeys_4 ?_
  refine ml_sums d_Mod_obeys_5 (by omega) (by omega) ?_
  refine s_call1 d_Mod_obeys_6 c_Mod_493 (Nat.le_of_ble_eq_true rfl) (t_Mod_smallS hx0 ?_)
  refine j_istore_n d_Mod_obeys_9 (by decide) ?_
  show SJ _ _ _ _ [_, _, _] _ _ _ _ _
  refine j_aload_n d_Mod_obeys_10 rfl ?_
  refine mg_head f_Mod_479 d_Mod_obeys_11 ?_
  refine z_case (23) (fun h14_0 => ?_) (fun h14_0 => ?_)
  · refine z_tabIn (t := 44) (o := 30) d_Mod_obeys_14 (by first | omega | exact hw _ | exact hx _ _ | assumption) (by omega) (by omega) (by rw [h14_0]; rfl) (by decide) ?_
    refine j_aload_n d_Mod_obeys_44 rfl ?_
    refine j_iload_n d_Mod_obeys_45 rfl ?_
    refine v_call1 d_Mod_obeys_46 c_Mod_372 rfl ⟨_, rfl, rfl⟩ (Nat.le_of_ble_eq_true rfl) (t_Mod_cutsKept hk u0 u1 (by omega) (fun h46 j22 j23 j24 j25 y26 y29 y30 => ?_) (fun h46 j22 j23 j24 j25 y26 y29 y30 => ?_))
    · have hrr := cuR_R (p := sm (x49 0)) hk
      first
      | exact z_iret rfl d_Mod_obeys_49 rfl (hno (by unfold obK; rw [if_pos h14_0]; exact if_pos h46) (cuR x2 (sm (x49 0))) (by omega) h46 _ _ _ _ _ _ _)
      | exact z_iret rfl d_Mod_obeys_49 rfl (hyes _ (by unfold obK; rw [if_pos h14_0]; exact if_neg (show ¬ (cuR x2 (sm (x49 0))) < 0 by omega)) (cuR x2 (sm (x49 0))) (by omega) (by omega) _ _ _ _ _ _ _)
    · have hrr := cuR_R (p := sm (x49 0)) hk
      first
      | exact z_iret rfl d_Mod_obeys_49 rfl (hno (by unfold obK; rw [if_pos h14_0]; exact if_pos h46) (cuR x2 (sm (x49 0))) (by omega) h46 _ _ _ _ _ _ _)
      | exact z_iret rfl d_Mod_obeys_49 rfl (hyes _ (by unfold obK; rw [if_pos h14_0]; exact if_neg (show ¬ (cuR x2 (sm (x49 0))) < 0 by omega)) (cuR x2 (sm (x49 0))) (by omega) (by omega) _ _ _ _ _ _ _)
  refine z_case (24) (fun h14_1 => ?_) (fun h14_1 => ?_)
  · refine z_tabIn (t := 50) (o := 36) d_Mod_obeys_14 (by first | omega | exact hw _ | exact hx _ _ | assumption) (by omega) (by omega) (by rw [h14_1]; rfl) (by decide) ?_
    refine j_aload_n d_Mod_obeys_50 rfl ?_
    refine j_iload_n d_Mod_obeys_51 rfl ?_
    refine j_aload_n d_Mod_obeys_52 rfl ?_
    refine mg_sums f_Mod_110 d_Mod_obeys_53 ?_
    refine z_iconst d_Mod_obeys_56 ?_
    refine ml_sums d_Mod_obeys_57 (by omega) (by omega) ?_
    refine s_call1 d_Mod_obeys_58 c_Mod_493 (Nat.le_of_ble_eq_true rfl) (t_Mod_smallS hx1 ?_)
    refine v_call2 d_Mod_obeys_61 c_Mod_375 rfl ⟨_, rfl, rfl⟩ (Nat.le_of_ble_eq_true rfl) (t_Mod_turnsKept hk u0 u1 (by omega) (by omega) (fun h61 j22 j23 j24 j25 y26 y29 y30 => ?_) (fun h61 j22 j23 j24 j25 y26 y29 y30 => ?_))
    · have hrr := tuR_R (p := sm (x49 0)) (s := sm (x49 1)) hk
      first
      | exact z_iret rfl d_Mod_obeys_64 rfl (hno (by unfold obK; rw [if_neg (by omega), if_pos (by omega)]; exact if_pos h61) (tuR x2 (sm (x49 0)) (sm (x49 1))) (by omega) h61 _ _ _ _ _ _ _)
      | exact z_iret rfl d_Mod_obeys_64 rfl (hyes _ (by unfold obK; rw [if_neg (by omega), if_pos (by omega)]; exact if_neg (show ¬ (tuR x2 (sm (x49 0)) (sm (x49 1))) < 0 by omega)) (tuR x2 (sm (x49 0)) (sm (x49 1))) (by omega) (by omega) _ _ _ _ _ _ _)
    · have hrr := tuR_R (p := sm (x49 0)) (s := sm (x49 1)) hk
      first
      | exact z_iret rfl d_Mod_obeys_64 rfl (hno (by unfold obK; rw [if_neg (by omega), if_pos (by omega)]; exact if_pos h61) (tuR x2 (sm (x49 0)) (sm (x49 1))) (by omega) h61 _ _ _ _ _ _ _)
      | exact z_iret rfl d_Mod_obeys_64 rfl (hyes _ (by unfold obK; rw [if_neg (by omega), if_pos (by omega)]; exact if_neg (show ¬ (tuR x2 (sm (x49 0)) (sm (x49 1))) < 0 by omega)) (tuR x2 (sm (x49 0)) (sm (x49 1))) (by omega) (by omega) _ _ _ _ _ _ _)
  refine z_case (25) (fun h14_2 => ?_) (fun h14_2 => ?_)
  · refine z_tabIn (t := 70) (o := 56) d_Mod_obeys_14 (by first | omega | exact hw _ | exact hx _ _ | assumption) (by omega) (by omega) (by rw [h14_2]; rfl) (by decide) ?_
    refine j_aload_n d_Mod_obeys_70 rfl ?_
    refine j_iload_n d_Mod_obeys_71 rfl ?_
    refine j_aload_n d_Mod_obeys_72 rfl ?_
    refine mg_sums f_Mod_110 d_Mod_obeys_73 ?_
    refine z_iconst d_Mod_obeys_76 ?_
    refine ml_sums d_Mod_obeys_77 (by omega) (by omega) ?_
    refine s_call1 d_Mod_obeys_78 c_Mod_493 (Nat.le_of_ble_eq_true rfl) (t_Mod_smallS hx1 ?_)
    refine v_call2 d_Mod_obeys_81 c_Mod_366 rfl ⟨_, rfl, rfl⟩ (Nat.le_of_ble_eq_true rfl) (t_Mod_putsKept hk u0 u1 (by omega) (by omega) (fun h81 j22 j23 j24 j25 y26 y29 y30 => ?_) (fun h81 j22 j23 j24 j25 y26 y29 y30 => ?_))
    · have hrr := puR_R (s := sm (x49 0)) (p := sm (x49 1)) hk
      refine j_istore_n d_Mod_obeys_84 (by decide) ?_
      show SJ _ _ _ _ [_, _, _] _ _ _ _ _
      refine j_aload_n d_Mod_obeys_85 rfl ?_
      refine j_iload_n d_Mod_obeys_86 rfl ?_
      refine z_if_ge (t := 97) d_Mod_obeys_87 (by decide) (by first | omega | exact hw _ | exact hx _ _ | assumption) (fun h87 => ?_) (fun h87 => ?_)
      · refine j_iload_n d_Mod_obeys_97 rfl ?_
        refine mp_orderLatest f_Mod_291 d_Mod_obeys_98 ?_
        refine j_iload_n d_Mod_obeys_101 rfl ?_
        first
        | (exfalso; omega)
        | exact z_iret rfl d_Mod_obeys_102 rfl (hno (by unfold obK; rw [if_neg (by omega), if_neg (by omega), if_neg (by omega)]; exact if_pos h81) (puR x2 (sm (x49 0)) (sm (x49 1))) (by omega) h81 _ _ _ _ _ _ _)
        | exact z_iret rfl d_Mod_obeys_102 rfl (hyes _ (by unfold obK; rw [if_neg (by omega), if_neg (by omega), if_neg (by omega)]; exact if_neg (show ¬ (puR x2 (sm (x49 0)) (sm (x49 1))) < 0 by omega)) (puR x2 (sm (x49 0)) (sm (x49 1))) (by omega) (by omega) _ _ _ _ _ _ _)
      · refine j_aload_n d_Mod_obeys_90 rfl ?_
        refine mg_orderLatest f_Mod_291 d_Mod_obeys_91 ?_
        refine j_goto (t := 98) d_Mod_obeys_94 (by decide) ?_
        refine mp_orderLatest f_Mod_291 d_Mod_obeys_98 ?_
        refine j_iload_n d_Mod_obeys_101 rfl ?_
        first
        | (exfalso; omega)
        | exact z_iret rfl d_Mod_obeys_102 rfl (hno (by unfold obK; rw [if_neg (by omega), if_neg (by omega), if_neg (by omega)]; exact if_pos h81) (puR x2 (sm (x49 0)) (sm (x49 1))) (by omega) h81 _ _ _ _ _ _ _)
        | exact z_iret rfl d_Mod_obeys_102 rfl (hyes _ (by unfold obK; rw [if_neg (by omega), if_neg (by omega), if_neg (by omega)]; exact if_neg (show ¬ (puR x2 (sm (x49 0)) (sm (x49 1))) < 0 by omega)) (puR x2 (sm (x49 0)) (sm (x49 1))) (by omega) (by omega) _ _ _ _ _ _ _)
    · have hrr := puR_R (s := sm (x49 0)) (p := sm (x49 1)) hk
      refine j_istore_n d_Mod_obeys_84 (by decide) ?_
      show SJ _ _ _ _ [_, _, _] _ _ _ _ _
      refine j_aload_n d_Mod_obeys_85 rfl ?_
      refine j_iload_n d_Mod_obeys_86 rfl ?_
      refine z_if_ge (t := 97) d_Mod_obeys_87 (by decide) (by first | omega | exact hw _ | exact hx _ _ | assumption) (fun h87 => ?_) (fun h87 => ?_)
      · refine j_iload_n d_Mod_obeys_97 rfl ?_
        refine mp_orderLatest f_Mod_291 d_Mod_obeys_98 ?_
        refine j_iload_n d_Mod_obeys_101 rfl ?_
        first
        | (exfalso; omega)
        | exact z_iret rfl d_Mod_obeys_102 rfl (hno (by unfold obK; rw [if_neg (by omega), if_neg (by omega), if_neg (by omega)]; exact if_pos h81) (puR x2 (sm (x49 0)) (sm (x49 1))) (by omega) h81 _ _ _ _ _ _ _)
        | exact z_iret rfl d_Mod_obeys_102 rfl (hyes _ (by unfold obK; rw [if_neg (by omega), if_neg (by omega), if_neg (by omega)]; exact if_neg (show ¬ (puR x2 (sm (x49 0)) (sm (x49 1))) < 0 by omega)) (puR x2 (sm (x49 0)) (sm (x49 1))) (by omega) (by omega) _ _ _ _ _ _ _)
      · refine j_aload_n d_Mod_obeys_90 rfl ?_
        refine mg_orderLatest f_Mod_291 d_Mod_obeys_91 ?_
        refine j_goto (t := 98) d_Mod_obeys_94 (by decide) ?_
        refine mp_orderLatest f_Mod_291 d_Mod_obeys_98 ?_
        refine j_iload_n d_Mod_obeys_101 rfl ?_
        first
        | (exfalso; omega)
        | exact z_iret rfl d_Mod_obeys_102 rfl (hno (by unfold obK; rw [if_neg (by omega), if_neg (by omega), if_neg (by omega)]; exact if_pos h81) (puR x2 (sm (x49 0)) (sm (x49 1))) (by omega) h81 _ _ _ _ _ _ _)
        | exact z_iret rfl d_Mod_obeys_102 rfl (hyes _ (by unfold obK; rw [if_neg (by omega), if_neg (by omega), if_neg (by omega)]; exact if_neg (show ¬ (puR x2 (sm (x49 0)) (sm (x49 1))) < 0 by omega)) (puR x2 (sm (x49 0)) (sm (x49 1))) (by omega) (by omega) _ _ _ _ _ _ _)
  refine z_case (26) (fun h14_3 => ?_) (fun h14_3 => ?_)
  · refine z_tabIn (t := 65) (o := 51) d_Mod_obeys_14 (by first | omega | exact hw _ | exact hx _ _ | assumption) (by omega) (by omega) (by rw [h14_3]; rfl) (by decide) ?_
    refine j_aload_n d_Mod_obeys_65 rfl ?_
    refine v_call0 d_Mod_obeys_66 c_Mod_378 rfl ⟨_, rfl, rfl⟩ (Nat.le_of_ble_eq_true rfl) (t_Mod_passesKept hk u0 u1 (fun h66  => ?_) (fun h66  => ?_))
    · have hrr := paR_R hk
      first
      | exact z_iret rfl d_Mod_obeys_69 rfl (hno (by unfold obK; rw [if_neg (by omega), if_neg (by omega), if_pos (by omega)]; exact if_pos h66) (paR x2) (by omega) h66 i22 i23 i24 i25 x26 x29 x30)
      | exact z_iret rfl d_Mod_obeys_69 rfl (hyes _ (by unfold obK; rw [if_neg (by omega), if_neg (by omega), if_pos (by omega)]; exact if_neg (show ¬ (paR x2) < 0 by omega)) (paR x2) (by omega) (by omega) i22 i23 i24 i25 x26 x29 x30)
    · have hrr := paR_R hk
      first
      | exact z_iret rfl d_Mod_obeys_69 rfl (hno (by unfold obK; rw [if_neg (by omega), if_neg (by omega), if_pos (by omega)]; exact if_pos h66) (paR x2) (by omega) h66 i22 i23 i24 i25 x26 x29 x30)
      | exact z_iret rfl d_Mod_obeys_69 rfl (hyes _ (by unfold obK; rw [if_neg (by omega), if_neg (by omega), if_pos (by omega)]; exact if_neg (show ¬ (paR x2) < 0 by omega)) (paR x2) (by omega) (by omega) i22 i23 i24 i25 x26 x29 x30)
  refine z_tabOut (t := 70) d_Mod_obeys_14 (by first | omega | exact hw _ | exact hx _ _ | assumption) (by omega) (by decide) ?_
  refine j_aload_n d_Mod_obeys_70 rfl ?_
  refine j_iload_n d_Mod_obeys_71 rfl ?_
  refine j_aload_n d_Mod_obeys_72 rfl ?_
  refine mg_sums f_Mod_110 d_Mod_obeys_73 ?_
  refine z_iconst d_Mod_obeys_76 ?_
  refine ml_sums d_Mod_obeys_77 (by omega) (by omega) ?_
  refine s_call1 d_Mod_obeys_78 c_Mod_493 (Nat.le_of_ble_eq_true rfl) (t_Mod_smallS hx1 ?_)
  refine v_call2 d_Mod_obeys_81 c_Mod_366 rfl ⟨_, rfl, rfl⟩ (Nat.le_of_ble_eq_true rfl) (t_Mod_putsKept hk u0 u1 (by omega) (by omega) (fun h81 j22 j23 j24 j25 y26 y29 y30 => ?_) (fun h81 j22 j23 j24 j25 y26 y29 y30 => ?_))
  · have hrr := puR_R (s := sm (x49 0)) (p := sm (x49 1)) hk
    refine j_istore_n d_Mod_obeys_84 (by decide) ?_
    show SJ _ _ _ _ [_, _, _] _ _ _ _ _
    refine j_aload_n d_Mod_obeys_85 rfl ?_
    refine j_iload_n d_Mod_obeys_86 rfl ?_
    refine z_if_ge (t := 97) d_Mod_obeys_87 (by decide) (by first | omega | exact hw _ | exact hx _ _ | assumption) (fun h87 => ?_) (fun h87 => ?_)
    · refine j_iload_n d_Mod_obeys_97 rfl ?_
      refine mp_orderLatest f_Mod_291 d_Mod_obeys_98 ?_
      refine j_iload_n d_Mod_obeys_101 rfl ?_
      first
      | (exfalso; omega)
      | exact z_iret rfl d_Mod_obeys_102 rfl (hno (by unfold obK; rw [if_neg (by omega), if_neg (by omega), if_neg (by omega)]; exact if_pos h81) (puR x2 (sm (x49 0)) (sm (x49 1))) (by omega) h81 _ _ _ _ _ _ _)
      | exact z_iret rfl d_Mod_obeys_102 rfl (hyes _ (by unfold obK; rw [if_neg (by omega), if_neg (by omega), if_neg (by omega)]; exact if_neg (show ¬ (puR x2 (sm (x49 0)) (sm (x49 1))) < 0 by omega)) (puR x2 (sm (x49 0)) (sm (x49 1))) (by omega) (by omega) _ _ _ _ _ _ _)
    · refine j_aload_n d_Mod_obeys_90 rfl ?_
      refine mg_orderLatest f_Mod_291 d_Mod_obeys_91 ?_
      refine j_goto (t := 98) d_Mod_obeys_94 (by decide) ?_
      refine mp_orderLatest f_Mod_291 d_Mod_obeys_98 ?_
      refine j_iload_n d_Mod_obeys_101 rfl ?_
      first
      | (exfalso; omega)
      | exact z_iret rfl d_Mod_obeys_102 rfl (hno (by unfold obK; rw [if_neg (by omega), if_neg (by omega), if_neg (by omega)]; exact if_pos h81) (puR x2 (sm (x49 0)) (sm (x49 1))) (by omega) h81 _ _ _ _ _ _ _)
      | exact z_iret rfl d_Mod_obeys_102 rfl (hyes _ (by unfold obK; rw [if_neg (by omega), if_neg (by omega), if_neg (by omega)]; exact if_neg (show ¬ (puR x2 (sm (x49 0)) (sm (x49 1))) < 0 by omega)) (puR x2 (sm (x49 0)) (sm (x49 1))) (by omega) (by omega) _ _ _ _ _ _ _)
  · have hrr := puR_R (s := sm (x49 0)) (p := sm (x49 1)) hk
    refine j_istore_n d_Mod_obeys_84 (by decide) ?_
    show SJ _ _ _ _ [_, _, _] _ _ _ _ _
    refine j_aload_n d_Mod_obeys_85 rfl ?_
    refine j_iload_n d_Mod_obeys_86 rfl ?_
    refine z_if_ge (t := 97) d_Mod_obeys_87 (by decide) (by first | omega | exact hw _ | exact hx _ _ | assumption) (fun h87 => ?_) (fun h87 => ?_)
    · refine j_iload_n d_Mod_obeys_97 rfl ?_
      refine mp_orderLatest f_Mod_291 d_Mod_obeys_98 ?_
      refine j_iload_n d_Mod_obeys_101 rfl ?_
      first
      | (exfalso; omega)
      | exact z_iret rfl d_Mod_obeys_102 rfl (hno (by unfold obK; rw [if_neg (by omega), if_neg (by omega), if_neg (by omega)]; exact if_pos h81) (puR x2 (sm (x49 0)) (sm (x49 1))) (by omega) h81 _ _ _ _ _ _ _)
      | exact z_iret rfl d_Mod_obeys_102 rfl (hyes _ (by unfold obK; rw [if_neg (by omega), if_neg (by omega), if_neg (by omega)]; exact if_neg (show ¬ (puR x2 (sm (x49 0)) (sm (x49 1))) < 0 by omega)) (puR x2 (sm (x49 0)) (sm (x49 1))) (by omega) (by omega) _ _ _ _ _ _ _)
    · refine j_aload_n d_Mod_obeys_90 rfl ?_
      refine mg_orderLatest f_Mod_291 d_Mod_obeys_91 ?_
      refine j_goto (t := 98) d_Mod_obeys_94 (by decide) ?_
      refine mp_orderLatest f_Mod_291 d_Mod_obeys_98 ?_
      refine j_iload_n d_Mod_obeys_101 rfl ?_
      first
      | (exfalso; omega)
      | exact z_iret rfl d_Mod_obeys_102 rfl (hno (by unfold obK; rw [if_neg (by omega), if_neg (by omega), if_neg (by omega)]; exact if_pos h81) (puR x2 (sm (x49 0)) (sm (x49 1))) (by omega) h81 _ _ _ _ _ _ _)
      | exact z_iret rfl d_Mod_obeys_102 rfl (hyes _ (by unfold obK; rw [if_neg (by omega), if_neg (by omega), if_neg (by omega)]; exact if_neg (show ¬ (puR x2 (sm (x49 0)) (sm (x49 1))) < 0 by omega)) (puR x2 (sm (x49 0)) (sm (x49 1))) (by omega) (by omega) _ _ _ _ _ _ _)
