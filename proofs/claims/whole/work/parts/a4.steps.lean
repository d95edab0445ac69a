theorem DrR_of {K z : Int → Int} {qI : Nat → Int} {qF : Nat → Int → Int} {qx : Nat → Option Nat} {ts : List TD} {ez : Int} (h : SI K (qI 0) (qI 1) (qI 2) (qI 3) (qI 4) (qF 0) (qF 1) (qF 2) (qF 4)) (hX : LXV qx ts) (hz : 0 ≤ ez ∧ ez ≤ 16) : DrR 1 (lo K 0 (K 0)) ez (cpy K z 0 0 22) qI qF qx ts := by
  have hn := h.2.1.1
  have e0 : ∀ j, 0 ≤ j → j < 22 → cpy K z 0 0 22 j = K j := fun j j0 j1 => by rw [cpy_in (by omega) (by omega)]; congr 1; omega
  have hre : RE K (cpy K z 0 0 22) := ⟨e0 0 (by omega) (by omega), fun q q0 q1 => e0 _ (by omega) (by omega)⟩
  refine ⟨Or.inr ⟨rfl, h.1.re hre, ?_⟩, by rw [hre.1]; exact hn, hX, hz⟩
  rw [hre.1, lo_K hre.2]
theorem st_readers {d : Nat} {mem : List xM} {seed : Int} (r_seed : R32 seed) {n : Int} (r_n : R32 n) (hI : INVm mem) {Q : List xM → Option Value → Prop} (kk : ∀ mem1 v, M148 mem1 → vI v → (∀ Q2 : List xM → Option Value → Prop, (∀ mem2, INVm mem2 → Q2 mem2 (some v)) → CT true m_Mod_readers (d + 92) [.ref 148, .int (ii seed), .int (ii n)] mem1 0 0 Q2) → Q mem1 (some v)) : CT true m_Hou_readers (d + 92) [.ref 0, .int (ii seed), .int (ii n)] mem 0 0 Q := by
  refine hI (fun mem => CT true m_Hou_readers (d + 92) [.ref 0, .int (ii seed), .int (ii n)] mem 0 0 Q) ?_
  intro hdn bl sp su lc fo rn rl rp pz pn fl td br dz ez rdn rlt rbr fz rs rm rd ro tm kp by_ tk ps pv pw sk wd dk dl dg rsk wr rf qI aI bI cI gI pI yI qF aF bF cF gF eF fF pF yF nF pr be wy lx qx ax bx cx ts i0 i6 i8 i9 i10 i13 i14 i18 i19 i20 i21 i22 i23 i24 i25 i27 i28 i33 i42 i43 i44 i45 i46 i47 i48 i51 i52 x1 x2 x3 x4 x5 x7 x11 x12 x15 x16 x17 x26 x29 x30 x31 x32 x34 x35 x36 x37 x38 x39 x40 x41 x49 x50 h1 h2 h3 h4 h5 h6 h7 h8 h9 h10 h11 h12
  obtain ⟨hS, hL, hX⟩ := id h1
  obtain ⟨hU, hdz⟩ := h2
  subst hdz
  obtain ⟨rfl, ⟨z0_, z1_⟩, hby⟩ := id h3
  obtain ⟨rfl, rfl, rfl, rfl⟩ := h5
  have hKR := hS.2.1
  have hKK := hL.kok hKR
  have hn20 := hKR.1
  have hu16 := hU.1
  refine E_X0 (args := [.ref 0, .int (ii seed), .int (ii n)]) CH_len MM_len rfl ?_
  rw [← WH_eq]
  exact t_Hou_readers hS hL hX h8.2.2.2 r_seed r_n (fun hc => ⟨(C_H hdn bl sp (-1) lc fo rn rl rp pz pn fl td br dz ez rdn rlt rbr fz rs rm rd ro tm kp by_ tk ps pv pw sk wd dk dl dg rsk wr (up rf (rix (-1)) (rf (rix (-1)) + 1)) qI aI bI cI gI pI yI qF aF bF cF gF eF fF pF yF nF pr be wy lx qx ax bx cx), WH_eq, CH_len, rfl, kk _ _ (M148_of CH_len MM_len ⟨_, rfl⟩) ⟨_, rfl⟩ (fun Q2 hq => E_M (args := [.ref 0, .int (ii seed), .int (ii n)]) CH_len MM_len rfl (t_Mod_readers hKK r_seed r_n (fun _ => ⟨MM_len, rfl, hq _ (INVmk h1 ⟨hU, rfl⟩ h3 h4 ⟨rfl, rfl, rfl, rfl⟩ (h6.upR (by decide)) h7 h8 h9 h10 h11 h12)⟩) (fun hn => absurd hn hc)))⟩) (fun hc td br ez sk wd qI qF eF qx hS2 hX2 hz2 => ⟨(C_H 1 bl sp 0 lc fo rn rl rp pz pn fl td br dz ez rdn rlt rbr fz rs rm rd ro tm kp by_ tk ps pv pw sk wd dk dl dg rsk wr rf qI aI bI cI gI pI yI qF aF bF cF gF eF fF pF yF nF pr be wy lx qx ax bx cx), WH_eq, CH_len, rfl, kk _ _ (M148_of CH_len MM_len ⟨_, rfl⟩) ⟨_, rfl⟩ (fun Q2 hq => E_M (args := [.ref 0, .int (ii seed), .int (ii n)]) CH_len MM_len rfl (t_Mod_readers hKK r_seed r_n (fun hn => absurd hc hn) (fun _ hk2 _ _ _ _ _ _ _ _ _ => ⟨MM_len, rfl, hq _ (INVmk h1 ⟨hU, rfl⟩ h3 h4 ⟨rfl, rfl, rfl, rfl⟩ h6 h7 (DrR_of hS2 hX2 hz2) h9 h10 h11 h12)⟩)))⟩)
theorem dr_eq {hdn i51 what : Int} {x50 : Int → Int} {A : Prop} (h : (hdn = 0 ∧ i51 = -1) ∨ (hdn = 1 ∧ A ∧ i51 = lo x50 0 (x50 0))) (h2 : 0 ≤ x50 0 ∧ x50 0 ≤ 20) : drR x50 hdn what = (if i51 = -1 then -1 else if what = 0 then x50 0 else if what = 1 then i51 else if 2 ≤ what ∧ what - 2 < x50 0 then x50 (what - 1) else -1) := by
  unfold drR
  rcases h with ⟨e1, e2⟩ | ⟨e1, -, e2⟩
  · rw [if_pos e1, if_pos e2]
  · have := lo_R (K := x50) (a := 0) (b := x50 0) (by omega) h2.2
    rw [if_neg (show ¬ hdn = 0 by omega), if_neg (show ¬ i51 = -1 by omega), e2]
theorem st_drawn {d : Nat} {mem : List xM} {what : Int} (r_what : R32 what) (hI : INVm mem) {Q : List xM → Option Value → Prop} (kk : ∀ mem1 v, M148 mem1 → vI v → (∀ Q2 : List xM → Option Value → Prop, (∀ mem2, INVm mem2 → Q2 mem2 (some v)) → CT true m_Mod_drawn (d + 92) [.ref 148, .int (ii what)] mem1 0 0 Q2) → Q mem1 (some v)) : CT true m_Hou_drawn (d + 92) [.ref 0, .int (ii what)] mem 0 0 Q := by
  refine hI (fun mem => CT true m_Hou_drawn (d + 92) [.ref 0, .int (ii what)] mem 0 0 Q) ?_
  intro hdn bl sp su lc fo rn rl rp pz pn fl td br dz ez rdn rlt rbr fz rs rm rd ro tm kp by_ tk ps pv pw sk wd dk dl dg rsk wr rf qI aI bI cI gI pI yI qF aF bF cF gF eF fF pF yF nF pr be wy lx qx ax bx cx ts i0 i6 i8 i9 i10 i13 i14 i18 i19 i20 i21 i22 i23 i24 i25 i27 i28 i33 i42 i43 i44 i45 i46 i47 i48 i51 i52 x1 x2 x3 x4 x5 x7 x11 x12 x15 x16 x17 x26 x29 x30 x31 x32 x34 x35 x36 x37 x38 x39 x40 x41 x49 x50 h1 h2 h3 h4 h5 h6 h7 h8 h9 h10 h11 h12
  obtain ⟨hS, hL, hX⟩ := id h1
  obtain ⟨hU, hdz⟩ := h2
  subst hdz
  obtain ⟨rfl, ⟨z0_, z1_⟩, hby⟩ := id h3
  obtain ⟨rfl, rfl, rfl, rfl⟩ := h5
  have hKR := hS.2.1
  have hKK := hL.kok hKR
  have hn20 := hKR.1
  have hu16 := hU.1
  obtain ⟨hd1, hd2, hd3, hd4⟩ := id h8
  have hr51 : R32 i51 := by
    rcases hd1 with z | z
    · have := z.2; omega
    · have := z.2.2; have := lo_R (K := x50) (a := 0) (b := x50 0) (by omega) hd2.2; omega
  have hz01 : hdn = 0 ∨ hdn = 1 := by
    rcases hd1 with z | z
    · exact Or.inl z.1
    · exact Or.inr z.1
  have hD : hdn = 1 → RI x50 (qI 2) (qI 3) (qI 4) (qF 0) (qF 1) (qF 2) := fun h => by
    rcases hd1 with z | z
    · have := z.1; omega
    · exact z.2.1
  have hdv := dr_eq (what := what) hd1 hd2
  refine E_X0 (args := [.ref 0, .int (ii what)]) CH_len MM_len rfl ?_
  rw [← WH_eq]
  exact t_Hou_drawn hz01 hD r_what (fun qI qF hD2 => ⟨(C_H hdn bl sp su lc fo rn rl rp pz pn fl td br dz ez rdn rlt rbr fz rs rm rd ro tm kp by_ tk ps pv pw sk wd dk dl dg rsk wr rf qI aI bI cI gI pI yI qF aF bF cF gF eF fF pF yF nF pr be wy lx qx ax bx cx), WH_eq, CH_len, rfl, kk _ _ (M148_of CH_len MM_len ⟨_, rfl⟩) ⟨_, rfl⟩ (fun Q2 hq => E_M (args := [.ref 0, .int (ii what)]) CH_len MM_len rfl (t_Mod_drawn r_what hr51 hd2.1 hd2.2 (by rw [← hdv]; exact ⟨MM_len, rfl, hq _ (INVmk h1 ⟨hU, rfl⟩ h3 h4 ⟨rfl, rfl, rfl, rfl⟩ h6 h7 ⟨hd1.imp id (fun z => ⟨z.1, hD2 z.1, z.2.2⟩), hd2, hd3, hd4⟩ h9 h10 h11 h12)⟩)))⟩)
theorem im_own {x2 x3 : Int → Int} {k : Int} (k0 : 0 ≤ k) (j : Int) (j0 : 0 ≤ j) (j1 : j < 5633) : im (cpy x2 x3 0 (5633 * k) 5633) k j = x2 j := by
  unfold im
  rw [cpy_in (by omega) (by omega)]
  congr 1
  omega
theorem im_other {x2 x3 : Int → Int} {k k' : Int} (h : k' ≠ k) (j : Int) (j0 : 0 ≤ j) (j1 : j < 5633) : im (cpy x2 x3 0 (5633 * k) 5633) k' j = im x3 k' j := by
  unfold im
  by_cases c : k' < k
  · rw [cpy_lo (by omega)]
  · rw [cpy_hi (by omega)]
theorem im_back {x2 x3 : Int → Int} {k : Int} (j : Int) (j0 : 0 ≤ j) (j1 : j < 5633) : cpy x3 x2 (5633 * k) 0 5633 j = im x3 k j := by
  unfold im
  rw [cpy_in (by omega) (by omega)]
  congr 1
  omega
theorem ImR.keep {k k' : Int} {kp x2 x4 x3 : Int → Int} {I : Nat → Int} {F : Nat → Int → Int} {ax : Nat → Option Nat} {ts : List TD} (h : ImR k' kp x4 x3 I F ax ts) (hk : k' ≠ k) : ImR k' (up kp k 1) (up x4 k 1) (cpy x2 x3 0 (5633 * k) 5633) I F ax ts := by
  obtain ⟨a1, a2, a3, a4⟩ := h
  refine ⟨by rw [up_ne hk, up_ne hk]; exact a1, by rw [up_ne hk]; exact a2, fun q => ?_, a4⟩
  rw [up_ne hk] at q
  obtain ⟨b1, b2⟩ := a3 q
  exact ⟨b1.sameB (fun j j0 j1 => im_other hk j j0 (by omega)), b2.sameB b1.2.1.2.2.2.2.2.1.2 (fun j j0 j1 => im_other hk j (by omega) j1)⟩
theorem ImR.own {k : Int} {kp x2 x4 x3 : Int → Int} {I : Nat → Int} {F : Nat → Int → Int} {ax : Nat → Option Nat} {ts : List TD} (k0 : 0 ≤ k) (h1 : SI x2 (I 0) (I 1) (I 2) (I 3) (I 4) (F 0) (F 1) (F 2) (F 4)) (h2 : LB x2 ax ts) (h3 : LXV ax ts) : ImR k (up kp k 1) (up x4 k 1) (cpy x2 x3 0 (5633 * k) 5633) I F ax ts :=
  ⟨by rw [up_eq, up_eq], by rw [up_eq]; exact Or.inr rfl, fun _ => ⟨h1.sameB (fun j j0 j1 => im_own k0 j j0 (by omega)), h2.sameB h1.2.1.2.2.2.2.2.1.2 (fun j j0 j1 => im_own k0 j (by omega) j1)⟩, h3⟩
theorem up01 {x4 : Int → Int} {k : Int} (h : ∀ j, x4 j = 0 ∨ x4 j = 1) (j : Int) : up x4 k 1 j = 0 ∨ up x4 k 1 j = 1 := by
  by_cases c : j = k
  · rw [c, up_eq]; exact Or.inr rfl
  · rw [up_ne c]; exact h j
theorem st_image {d : Nat} {mem : List xM} {k : Int} (r_k : R32 k) (hI : INVm mem) {Q : List xM → Option Value → Prop} (kk : ∀ mem1 v, M148 mem1 → vI v → (∀ Q2 : List xM → Option Value → Prop, (∀ mem2, INVm mem2 → Q2 mem2 (some v)) → CT true m_Mod_image (d + 92) [.ref 148, .int (ii k)] mem1 0 0 Q2) → Q mem1 (some v)) : CT true m_Hou_image (d + 92) [.ref 0, .int (ii k)] mem 0 0 Q := by
  refine hI (fun mem => CT true m_Hou_image (d + 92) [.ref 0, .int (ii k)] mem 0 0 Q) ?_
  intro hdn bl sp su lc fo rn rl rp pz pn fl td br dz ez rdn rlt rbr fz rs rm rd ro tm kp by_ tk ps pv pw sk wd dk dl dg rsk wr rf qI aI bI cI gI pI yI qF aF bF cF gF eF fF pF yF nF pr be wy lx qx ax bx cx ts i0 i6 i8 i9 i10 i13 i14 i18 i19 i20 i21 i22 i23 i24 i25 i27 i28 i33 i42 i43 i44 i45 i46 i47 i48 i51 i52 x1 x2 x3 x4 x5 x7 x11 x12 x15 x16 x17 x26 x29 x30 x31 x32 x34 x35 x36 x37 x38 x39 x40 x41 x49 x50 h1 h2 h3 h4 h5 h6 h7 h8 h9 h10 h11 h12
  obtain ⟨hS, hL, hX⟩ := id h1
  obtain ⟨hU, hdz⟩ := h2
  subst hdz
  obtain ⟨rfl, ⟨z0_, z1_⟩, hby⟩ := id h3
  obtain ⟨rfl, rfl, rfl, rfl⟩ := h5
  have hKR := hS.2.1
  have hKK := hL.kok hKR
  have hn20 := hKR.1
  have hu16 := hU.1
  by_cases hk : 0 ≤ k ∧ k ≤ 1
  · have hk2 : k = 0 ∨ k = 1 := by omega
    rcases hk2 with rfl | rfl
    · refine E_X0 (args := [.ref 0, .int (ii 0)]) CH_len MM_len rfl ?_
      rw [← WH_eq]
      exact t_Hou_image0 hS hL hX (fun aI aF ax hA hAL hAX => ⟨(C_H hdn bl sp 0 lc fo rn rl rp pz pn fl td br dz ez rdn rlt rbr fz rs rm rd ro tm (up kp 0 1) by_ tk ps pv pw sk wd dk dl dg rsk wr rf qI aI bI cI gI pI yI qF aF bF cF gF eF fF pF yF nF pr be wy lx qx ax bx cx), WH_eq, CH_len, rfl, kk _ _ (M148_of CH_len MM_len ⟨_, rfl⟩) ⟨_, rfl⟩ (fun Q2 hq => E_M (args := [.ref 0, .int (ii 0)]) CH_len MM_len rfl (t_Mod_image (by omega) (fun _ => ⟨MM_len, rfl, hq _ (INVmk h1 ⟨hU, rfl⟩ h3 h4 ⟨rfl, rfl, rfl, rfl⟩ h6 h7 h8 (ImR.own (by omega) hA hAL hAX) (h10.keep (by omega)) h11 (up01 h12))⟩) (fun hn => absurd (by omega) hn)))⟩)
    · refine E_X0 (args := [.ref 0, .int (ii 1)]) CH_len MM_len rfl ?_
      rw [← WH_eq]
      exact t_Hou_image1 hS hL hX (fun bI bF bx hA hAL hAX => ⟨(C_H hdn bl sp 0 lc fo rn rl rp pz pn fl td br dz ez rdn rlt rbr fz rs rm rd ro tm (up kp 1 1) by_ tk ps pv pw sk wd dk dl dg rsk wr rf qI aI bI cI gI pI yI qF aF bF cF gF eF fF pF yF nF pr be wy lx qx ax bx cx), WH_eq, CH_len, rfl, kk _ _ (M148_of CH_len MM_len ⟨_, rfl⟩) ⟨_, rfl⟩ (fun Q2 hq => E_M (args := [.ref 0, .int (ii 1)]) CH_len MM_len rfl (t_Mod_image (by omega) (fun _ => ⟨MM_len, rfl, hq _ (INVmk h1 ⟨hU, rfl⟩ h3 h4 ⟨rfl, rfl, rfl, rfl⟩ h6 h7 h8 (h9.keep (by omega)) (ImR.own (by omega) hA hAL hAX) h11 (up01 h12))⟩) (fun hn => absurd (by omega) hn)))⟩)
  refine E_X0 (args := [.ref 0, .int (ii k)]) CH_len MM_len rfl ?_
  rw [← WH_eq]
  exact t_Hou_imageN r_k hk (⟨(C_H hdn bl sp (-1) lc fo rn rl rp pz pn fl td br dz ez rdn rlt rbr fz rs rm rd ro tm kp by_ tk ps pv pw sk wd dk dl dg rsk wr (up rf (rix (-1)) (rf (rix (-1)) + 1)) qI aI bI cI gI pI yI qF aF bF cF gF eF fF pF yF nF pr be wy lx qx ax bx cx), WH_eq, CH_len, rfl, kk _ _ (M148_of CH_len MM_len ⟨_, rfl⟩) ⟨_, rfl⟩ (fun Q2 hq => E_M (args := [.ref 0, .int (ii k)]) CH_len MM_len rfl (t_Mod_image r_k (fun hn => absurd hn hk) (fun _ => ⟨MM_len, rfl, hq _ (INVmk h1 ⟨hU, rfl⟩ h3 h4 ⟨rfl, rfl, rfl, rfl⟩ (h6.upR (by decide)) h7 h8 h9 h10 h11 h12)⟩)))⟩)
theorem st_back {d : Nat} {mem : List xM} {k : Int} (r_k : R32 k) (hI : INVm mem) {Q : List xM → Option Value → Prop} (kk : ∀ mem1 v, M148 mem1 → vI v → (∀ Q2 : List xM → Option Value → Prop, (∀ mem2, INVm mem2 → Q2 mem2 (some v)) → CT true m_Mod_back (d + 92) [.ref 148, .int (ii k)] mem1 0 0 Q2) → Q mem1 (some v)) : CT true m_Hou_back (d + 92) [.ref 0, .int (ii k)] mem 0 0 Q := by
  refine hI (fun mem => CT true m_Hou_back (d + 92) [.ref 0, .int (ii k)] mem 0 0 Q) ?_
  intro hdn bl sp su lc fo rn rl rp pz pn fl td br dz ez rdn rlt rbr fz rs rm rd ro tm kp by_ tk ps pv pw sk wd dk dl dg rsk wr rf qI aI bI cI gI pI yI qF aF bF cF gF eF fF pF yF nF pr be wy lx qx ax bx cx ts i0 i6 i8 i9 i10 i13 i14 i18 i19 i20 i21 i22 i23 i24 i25 i27 i28 i33 i42 i43 i44 i45 i46 i47 i48 i51 i52 x1 x2 x3 x4 x5 x7 x11 x12 x15 x16 x17 x26 x29 x30 x31 x32 x34 x35 x36 x37 x38 x39 x40 x41 x49 x50 h1 h2 h3 h4 h5 h6 h7 h8 h9 h10 h11 h12
  obtain ⟨hS, hL, hX⟩ := id h1
  obtain ⟨hU, hdz⟩ := h2
  subst hdz
  obtain ⟨rfl, ⟨z0_, z1_⟩, hby⟩ := id h3
  obtain ⟨rfl, rfl, rfl, rfl⟩ := h5
  have hKR := hS.2.1
  have hKK := hL.kok hKR
  have hn20 := hKR.1
  have hu16 := hU.1
  by_cases hk : 0 ≤ k ∧ k ≤ 1
  · have hk2 : k = 0 ∨ k = 1 := by omega
    rcases hk2 with rfl | rfl
    · refine E_X0 (args := [.ref 0, .int (ii 0)]) CH_len MM_len rfl ?_
      rw [← WH_eq]
      exact t_Hou_back0 (KI := im x3 0) h9.2.1 h9.2.2.1 h9.2.2.2 (fun hc => ⟨(C_H hdn bl sp (-2) lc fo rn rl rp pz pn fl td br dz ez rdn rlt rbr fz rs rm rd ro tm kp by_ tk ps pv pw sk wd dk dl dg rsk wr (up rf (rix (-2)) (rf (rix (-2)) + 1)) qI aI bI cI gI pI yI qF aF bF cF gF eF fF pF yF nF pr be wy lx qx ax bx cx), WH_eq, CH_len, rfl, kk _ _ (M148_of CH_len MM_len ⟨_, rfl⟩) ⟨_, rfl⟩ (fun Q2 hq => E_M (args := [.ref 0, .int (ii 0)]) CH_len MM_len rfl (t_Mod_back (by omega) (fun j => by have := h12 j; omega) (fun _ hn => absurd (by rw [← h9.1]; exact hc) hn) (fun _ _ => ⟨MM_len, rfl, hq _ (INVmk h1 ⟨hU, rfl⟩ h3 h4 ⟨rfl, rfl, rfl, rfl⟩ (h6.upR (by decide)) h7 h8 h9 h10 h11 h12)⟩) (fun hn => absurd (by omega) hn)))⟩) (fun hc lc fo rn rl rp rs rm rd ro tm lx hS2 hL2 hX2 => ⟨(C_H hdn bl sp 0 lc fo rn rl rp pz pn fl td br 0 ez rdn rlt rbr fz rs rm rd ro tm kp by_ tk ps pv pw sk wd dk dl dg rsk wr rf qI aI bI cI gI pI yI qF aF bF cF gF eF fF pF yF nF pr be wy lx qx ax bx cx), WH_eq, CH_len, rfl, kk _ _ (M148_of CH_len MM_len ⟨_, rfl⟩) ⟨_, rfl⟩ (fun Q2 hq => E_M (args := [.ref 0, .int (ii 0)]) CH_len MM_len rfl (t_Mod_back (by omega) (fun j => by have := h12 j; omega) (fun _ _ => ⟨MM_len, rfl, hq _ (INVmk ⟨hS2.sameB (fun j j0 j1 => im_back j j0 (by omega)), hL2.sameB hS2.2.1.2.2.2.2.2.1.2 (fun j j0 j1 => im_back j (by omega) j1), hX2⟩ ⟨hU.none, rfl⟩ h3 h4 ⟨rfl, rfl, rfl, rfl⟩ h6 h7 h8 h9 h10 h11 h12)⟩) (fun _ hn => absurd hn (by rw [← h9.1, hc]; decide)) (fun hn => absurd (by omega) hn)))⟩)
    · refine E_X0 (args := [.ref 0, .int (ii 1)]) CH_len MM_len rfl ?_
      rw [← WH_eq]
      exact t_Hou_back1 (KI := im x3 1) h10.2.1 h10.2.2.1 h10.2.2.2 (fun hc => ⟨(C_H hdn bl sp (-2) lc fo rn rl rp pz pn fl td br dz ez rdn rlt rbr fz rs rm rd ro tm kp by_ tk ps pv pw sk wd dk dl dg rsk wr (up rf (rix (-2)) (rf (rix (-2)) + 1)) qI aI bI cI gI pI yI qF aF bF cF gF eF fF pF yF nF pr be wy lx qx ax bx cx), WH_eq, CH_len, rfl, kk _ _ (M148_of CH_len MM_len ⟨_, rfl⟩) ⟨_, rfl⟩ (fun Q2 hq => E_M (args := [.ref 0, .int (ii 1)]) CH_len MM_len rfl (t_Mod_back (by omega) (fun j => by have := h12 j; omega) (fun _ hn => absurd (by rw [← h10.1]; exact hc) hn) (fun _ _ => ⟨MM_len, rfl, hq _ (INVmk h1 ⟨hU, rfl⟩ h3 h4 ⟨rfl, rfl, rfl, rfl⟩ (h6.upR (by decide)) h7 h8 h9 h10 h11 h12)⟩) (fun hn => absurd (by omega) hn)))⟩) (fun hc lc fo rn rl rp rs rm rd ro tm lx hS2 hL2 hX2 => ⟨(C_H hdn bl sp 0 lc fo rn rl rp pz pn fl td br 0 ez rdn rlt rbr fz rs rm rd ro tm kp by_ tk ps pv pw sk wd dk dl dg rsk wr rf qI aI bI cI gI pI yI qF aF bF cF gF eF fF pF yF nF pr be wy lx qx ax bx cx), WH_eq, CH_len, rfl, kk _ _ (M148_of CH_len MM_len ⟨_, rfl⟩) ⟨_, rfl⟩ (fun Q2 hq => E_M (args := [.ref 0, .int (ii 1)]) CH_len MM_len rfl (t_Mod_back (by omega) (fun j => by have := h12 j; omega) (fun _ _ => ⟨MM_len, rfl, hq _ (INVmk ⟨hS2.sameB (fun j j0 j1 => im_back j j0 (by omega)), hL2.sameB hS2.2.1.2.2.2.2.2.1.2 (fun j j0 j1 => im_back j (by omega) j1), hX2⟩ ⟨hU.none, rfl⟩ h3 h4 ⟨rfl, rfl, rfl, rfl⟩ h6 h7 h8 h9 h10 h11 h12)⟩) (fun _ hn => absurd hn (by rw [← h10.1, hc]; decide)) (fun hn => absurd (by omega) hn)))⟩)
  refine E_X0 (args := [.ref 0, .int (ii k)]) CH_len MM_len rfl ?_
  rw [← WH_eq]
  exact t_Hou_backN r_k hk (⟨(C_H hdn bl sp (-1) lc fo rn rl rp pz pn fl td br dz ez rdn rlt rbr fz rs rm rd ro tm kp by_ tk ps pv pw sk wd dk dl dg rsk wr (up rf (rix (-1)) (rf (rix (-1)) + 1)) qI aI bI cI gI pI yI qF aF bF cF gF eF fF pF yF nF pr be wy lx qx ax bx cx), WH_eq, CH_len, rfl, kk _ _ (M148_of CH_len MM_len ⟨_, rfl⟩) ⟨_, rfl⟩ (fun Q2 hq => E_M (args := [.ref 0, .int (ii k)]) CH_len MM_len rfl (t_Mod_back r_k (fun j => by have := h12 j; omega) (fun hn => absurd hn hk) (fun hn => absurd hn hk) (fun _ => ⟨MM_len, rfl, hq _ (INVmk h1 ⟨hU, rfl⟩ h3 h4 ⟨rfl, rfl, rfl, rfl⟩ (h6.upR (by decide)) h7 h8 h9 h10 h11 h12)⟩)))⟩)
theorem co_eq {K tm rf x1 : Int → Int} {dz pz what : Int} {a b c e f : Int} {rs rm rd : Int → Int} (h : SI K a b c e f rs rm rd tm) (hr : RfR rf x1) (hw : what ≠ 1) : coR K tm rf dz pz what = (if what = 0 then K 0 else if what = 2 then K 24 else if what = 3 then dz else if what = 4 then pz else if 5 ≤ what ∧ what ≤ 7 then x1 (what - 4) else if what = 8 then x1 5 else if what = 9 then x1 6 else if what = 10 then K 25 else if 11 ≤ what ∧ what ≤ 13 then K (10 + what) else -1) := by
  obtain ⟨-, -, t0, t1, t2, -⟩ := h
  obtain ⟨r0, r1, r2, r3, r4⟩ := hr
  unfold coR
  rw [if_neg hw]
  by_cases c0 : what = 0
  · rw [if_pos c0, if_pos c0]
  rw [if_neg c0, if_neg c0]
  by_cases c2 : what = 2
  · rw [if_pos c2, if_pos c2]
  rw [if_neg c2, if_neg c2]
  by_cases c3 : what = 3
  · rw [if_pos c3, if_pos c3]
  rw [if_neg c3, if_neg c3]
  by_cases c4 : what = 4
  · rw [if_pos c4, if_pos c4]
  rw [if_neg c4, if_neg c4]
  by_cases c5 : 5 ≤ what ∧ what ≤ 7
  · rw [if_pos c5, if_pos (show 5 ≤ what ∧ what ≤ 9 by omega)]
    have hh : what = 5 ∨ what = 6 ∨ what = 7 := by omega
    rcases hh with rfl | rfl | rfl
    · exact r0
    · exact r1
    · exact r2
  rw [if_neg c5]
  by_cases c8 : what = 8
  · rw [if_pos c8, if_pos (show 5 ≤ what ∧ what ≤ 9 by omega), c8]
    exact r3
  rw [if_neg c8]
  by_cases c9 : what = 9
  · rw [if_pos c9, if_pos (show 5 ≤ what ∧ what ≤ 9 by omega), c9]
    exact r4
  rw [if_neg c9, if_neg (show ¬ (5 ≤ what ∧ what ≤ 9) by omega)]
  by_cases c10 : what = 10
  · rw [if_pos c10, if_pos c10]
  rw [if_neg c10, if_neg c10]
  by_cases c11 : 11 ≤ what ∧ what ≤ 13
  · rw [if_pos c11, if_pos c11]
    have hh : what = 11 ∨ what = 12 ∨ what = 13 := by omega
    rcases hh with rfl | rfl | rfl
    · exact t0
    · exact t1
    · exact t2
  rw [if_neg c11, if_neg c11]
theorem st_count {d : Nat} {mem : List xM} {what : Int} (r_what : R32 what) (hI : INVm mem) {Q : List xM → Option Value → Prop} (kk : ∀ mem1 v, M148 mem1 → vI v → (∀ Q2 : List xM → Option Value → Prop, (∀ mem2, INVm mem2 → Q2 mem2 (some v)) → CT true m_Mod_count (d + 92) [.ref 148, .int (ii what)] mem1 0 0 Q2) → Q mem1 (some v)) : CT true m_Hou_count (d + 92) [.ref 0, .int (ii what)] mem 0 0 Q := by
  refine hI (fun mem => CT true m_Hou_count (d + 92) [.ref 0, .int (ii what)] mem 0 0 Q) ?_
  intro hdn bl sp su lc fo rn rl rp pz pn fl td br dz ez rdn rlt rbr fz rs rm rd ro tm kp by_ tk ps pv pw sk wd dk dl dg rsk wr rf qI aI bI cI gI pI yI qF aF bF cF gF eF fF pF yF nF pr be wy lx qx ax bx cx ts i0 i6 i8 i9 i10 i13 i14 i18 i19 i20 i21 i22 i23 i24 i25 i27 i28 i33 i42 i43 i44 i45 i46 i47 i48 i51 i52 x1 x2 x3 x4 x5 x7 x11 x12 x15 x16 x17 x26 x29 x30 x31 x32 x34 x35 x36 x37 x38 x39 x40 x41 x49 x50 h1 h2 h3 h4 h5 h6 h7 h8 h9 h10 h11 h12
  obtain ⟨hS, hL, hX⟩ := id h1
  obtain ⟨hU, hdz⟩ := h2
  subst hdz
  obtain ⟨rfl, ⟨z0_, z1_⟩, hby⟩ := id h3
  obtain ⟨rfl, rfl, rfl, rfl⟩ := h5
  have hKR := hS.2.1
  have hKK := hL.kok hKR
  have hn20 := hKR.1
  have hu16 := hU.1
  refine E_X0 (args := [.ref 0, .int (ii what)]) CH_len MM_len rfl ?_
  rw [← WH_eq]
  exact t_Hou_count hS hL r_what (fun rl rp rm rd ro hR2 => ⟨(C_H hdn bl sp su lc fo rn rl rp pz pn fl td br dz ez rdn rlt rbr fz rs rm rd ro tm kp by_ tk ps pv pw sk wd dk dl dg rsk wr rf qI aI bI cI gI pI yI qF aF bF cF gF eF fF pF yF nF pr be wy lx qx ax bx cx), WH_eq, CH_len, rfl, kk _ _ (M148_of CH_len MM_len ⟨_, rfl⟩) ⟨_, rfl⟩ (fun Q2 hq => E_M (args := [.ref 0, .int (ii what)]) CH_len MM_len rfl (t_Mod_count r_what hn20.1 hn20.2 hKR.2.1 (fun hw => by rw [lo_eq, show lo x2 0 (x2 0) = coR x2 tm rf dz pz what from (if_pos hw).symm]; exact ⟨MM_len, rfl, hq _ (INVmk ⟨⟨hR2, hS.2⟩, hL, hX⟩ ⟨hU, rfl⟩ h3 h4 ⟨rfl, rfl, rfl, rfl⟩ h6 h7 h8 h9 h10 h11 h12)⟩) (fun hw => by rw [← co_eq hS h6 hw]; exact ⟨MM_len, rfl, hq _ (INVmk ⟨⟨hR2, hS.2⟩, hL, hX⟩ ⟨hU, rfl⟩ h3 h4 ⟨rfl, rfl, rfl, rfl⟩ h6 h7 h8 h9 h10 h11 h12)⟩)))⟩)
theorem ord_back {x2 x5 L Kz : Int → Int} (h : ∀ j, j < 0 ∨ 22 ≤ j → Kz j = L j) (h2 : ∀ j, 0 ≤ j → j < 22 → L j = x2 j) (j : Int) (j0 : 0 ≤ j) : cpy (cpy x2 x5 0 (22 * 1) 22) Kz (22 * 1) 0 22 j = L j := by
  by_cases c : j < 22
  · rw [cpy_in (by omega) (by omega), cpy_in (by omega) (by omega), h2 j j0 c]
    congr 1
    omega
  · rw [cpy_hi (by omega)]
    exact h j (by omega)
theorem ord_z {x31 x32 Z : Int → Int} (j : Int) (j0 : 0 ≤ j) (j1 : j < 368) : cpy (cpy x31 x32 0 0 368) Z 0 0 368 j = x31 j := by
  rw [cpy_in (by omega) (by omega), cpy_in (by omega) (by omega)]
  congr 1
  omega
theorem st_orders {d : Nat} {mem : List xM} (hI : INVm mem) {Q : List xM → Option Value → Prop} (kk : ∀ mem1 v, M148 mem1 → vI v → (∀ Q2 : List xM → Option Value → Prop, (∀ mem2, INVm mem2 → Q2 mem2 (some v)) → CT true m_Mod_orders (d + 92) [.ref 148] mem1 0 0 Q2) → Q mem1 (some v)) : CT true m_Hou_orders (d + 92) [.ref 0] mem 0 0 Q := by
  refine hI (fun mem => CT true m_Hou_orders (d + 92) [.ref 0] mem 0 0 Q) ?_
  intro hdn bl sp su lc fo rn rl rp pz pn fl td br dz ez rdn rlt rbr fz rs rm rd ro tm kp by_ tk ps pv pw sk wd dk dl dg rsk wr rf qI aI bI cI gI pI yI qF aF bF cF gF eF fF pF yF nF pr be wy lx qx ax bx cx ts i0 i6 i8 i9 i10 i13 i14 i18 i19 i20 i21 i22 i23 i24 i25 i27 i28 i33 i42 i43 i44 i45 i46 i47 i48 i51 i52 x1 x2 x3 x4 x5 x7 x11 x12 x15 x16 x17 x26 x29 x30 x31 x32 x34 x35 x36 x37 x38 x39 x40 x41 x49 x50 h1 h2 h3 h4 h5 h6 h7 h8 h9 h10 h11 h12
  obtain ⟨hS, hL, hX⟩ := id h1
  obtain ⟨hU, hdz⟩ := h2
  subst hdz
  obtain ⟨rfl, ⟨z0_, z1_⟩, hby⟩ := id h3
  obtain ⟨rfl, rfl, rfl, rfl⟩ := h5
  have hKR := hS.2.1
  have hKK := hL.kok hKR
  have hn20 := hKR.1
  have hu16 := hU.1
  have hbr : ∀ j, 0 ≤ j → j < 400 → -128 ≤ x11 j ∧ x11 j ≤ 127 := fun j j0 j1 => (hby j j0 j1).2
  have hb255 : ∀ j, 0 ≤ j → j < 400 → 0 ≤ by_ j ∧ by_ j ≤ 255 := fun j j0 j1 => by
    have h := hby j j0 j1
    rw [h.1]
    unfold ub
    split <;> omega
  have hTR := tkz_R (t := x11) (size := pz) (q := (i18, x15, x16, x17)) z0_ z1_ (fun j j0 j1 => by have := hbr j j0 (by omega); omega)
  have hub := tkz_ub (u := by_) hbr (fun j j0 j1 => (hby j j0 (by omega)).1) z1_ (i18, x15, x16, x17)
  obtain ⟨K_, hK⟩ : ∃ K_, tkz x11 pz (i18, x15, x16, x17) = K_ := ⟨_, rfl⟩
  rw [hK] at hTR hub
  have hN0 := hTR.1
  have hN1 := hTR.2.1
  have hTR2 := hTR.2.2.2
  have h24 := hKR.2.2.2.2.2.1
  have hSl : SI (lyK x2 K_.2.1 K_.2.2.1 K_.1 6) lc fo rn rl rp rs rm rd tm := hS.lay (by omega) (by omega) hN0 hN1
  have hLl : LB (lyK x2 K_.2.1 K_.2.2.1 K_.1 6) lx ts := hL.lay6 h24.2 hN0 hN1 (fun k k0 k1 => (hTR2 k k0 (by omega)).1)
  have hly := lyK_at (K := x2) (C := K_.2.1) (V := K_.2.2.1) (N := K_.1) (f := 6) (by omega) (by omega) hN0 hN1
  have hUl : UR (lyK x2 K_.2.1 K_.2.2.1 K_.1 6) x31 dz dk dl dg := hU.same (fun j j0 j1 => hly.2.2 j (by omega) (by omega) (by omega))
  refine E_X0 (args := [.ref 0]) CH_len MM_len rfl ?_
  rw [← WH_eq]
  exact t_Hou_orders hSl hLl hUl hX hb255 h4.2 z0_ z1_ (qz := (i18, x15, x16, x17)) (by rw [hub]; exact ⟨hTR.2.2.1, hN0, fun k k0 k1 => (hTR2 k k0 (by omega)).2.1.1⟩) (fun t hpr pn tk ps pv gI gF => by rw [hub] at hpr ⊢; exact ⟨(C_H hdn bl (-1) (-6) lc fo rn rl rp 0 pn (K_.2.2.2 t) td br dz ez rdn rlt rbr fz rs rm rd ro tm kp by_ tk ps pv pw sk wd dk dl dg rsk wr (up rf (rix (-6)) (rf (rix (-6)) + 1)) qI aI bI cI gI pI yI qF aF bF cF gF eF fF pF yF nF pr be wy lx qx ax bx cx), WH_eq, CH_len, rfl, kk _ _ (M148_of CH_len MM_len ⟨_, rfl⟩) ⟨_, rfl⟩ (fun Q2 hq => E_M (args := [.ref 0]) CH_len MM_len rfl (t_Mod_orders hbr h4.1 z0_ z1_ hK (fun _ _ _ _ => hLl.kok hSl.2.1) hu16.1 hu16.2 h7.1 h7.2 (fun cs t l hp => absurd (hpr.symm.trans hp) (by intro z; cases z)) (fun t2 hp2 _ _ _ => by cases hpr.symm.trans hp2; exact ⟨MM_len, rfl, hq _ (INVmk h1 ⟨hU, rfl⟩ ⟨rfl, ⟨by omega, by omega⟩, hby⟩ h4 ⟨rfl, rfl, rfl, rfl⟩ (h6.upR (by decide)) h7 h8 h9 h10 h11 h12)⟩) (fun cs2 t2 l2 hp2 T2 hT2 => absurd (hpr.symm.trans hp2) (by intro z; cases z)) (fun cs2 t2 l2 hp2 m2 hm2 => absurd (hpr.symm.trans hp2) (by intro z; cases z))))⟩) (fun cs t l hpr hc12 T hT rn rl rp td br rbr fz rlt pn rs rm rd ro tm sk wd dk dl dg rsk wr tk ps pv gI cI gF cF fF cx hS2 hU2 hh2 hcx => by rw [hub] at hpr; exact ⟨(C_H hdn bl (-1) 0 lc fo rn rl rp 0 pn (-1) td br T.2.2.1 ez T.2.2.2.1 rlt rbr fz rs rm rd ro tm kp by_ tk ps pv pw sk wd dk dl dg rsk wr rf qI aI bI cI gI pI yI qF aF bF cF gF eF fF pF yF nF pr be wy lx qx ax bx cx), WH_eq, CH_len, rfl, kk _ _ (M148_of CH_len MM_len ⟨_, rfl⟩) ⟨_, rfl⟩ (fun Q2 hq => E_M (args := [.ref 0]) CH_len MM_len rfl (t_Mod_orders hbr h4.1 z0_ z1_ hK (fun _ _ _ _ => hLl.kok hSl.2.1) hu16.1 hu16.2 h7.1 h7.2 (fun cs t l hp => (by cases hpr.symm.trans hp; exact hc12)) (fun t2 hp2 => absurd (hpr.symm.trans hp2) (by intro z; cases z)) (fun cs2 t2 l2 hp2 T2 hT2 _ _ hh3 _ _ _ _ _ _ _ _ _ _ _ _ _ _ _ y49 q1 q2 => by cases hpr.symm.trans hp2; cases hT.symm.trans hT2; exact ⟨MM_len, rfl, hq _ (INVmk ⟨hS2, hLl.of22 hh2, hX⟩ ⟨hU2, rfl⟩ ⟨rfl, ⟨by omega, by omega⟩, hby⟩ h4 ⟨rfl, rfl, rfl, rfl⟩ h6 ⟨q1, q2⟩ h8 h9 h10 ⟨hcx, h11.2⟩ h12)⟩) (fun cs2 t2 l2 hp2 m2 hm2 => by cases hpr.symm.trans hp2; cases hT.symm.trans hm2)))⟩) (fun cs t l hpr hc12 m hm2 lc fo rn rl rp td br rbr fz rdn rlt pn rs rm rd ro tm sk wd dk dl dg rsk wr tk ps pv gI cI gF cF fF lx cx hS2 hU2 hL2 hX2 hcx => by rw [hub] at hpr; exact ⟨(C_H hdn bl m (-3) lc fo rn rl rp 0 pn (-1) td br dz ez rdn rlt rbr fz rs rm rd ro tm kp by_ tk ps pv pw sk wd dk dl dg rsk wr (up rf (rix (-3)) (rf (rix (-3)) + 1)) qI aI bI cI gI pI yI qF aF bF cF gF eF fF pF yF nF pr be wy lx qx ax bx cx), WH_eq, CH_len, rfl, kk _ _ (M148_of CH_len MM_len ⟨_, rfl⟩) ⟨_, rfl⟩ (fun Q2 hq => E_M (args := [.ref 0]) CH_len MM_len rfl (t_Mod_orders hbr h4.1 z0_ z1_ hK (fun _ _ _ _ => hLl.kok hSl.2.1) hu16.1 hu16.2 h7.1 h7.2 (fun cs t l hp => (by cases hpr.symm.trans hp; exact hc12)) (fun t2 hp2 => absurd (hpr.symm.trans hp2) (by intro z; cases z)) (fun cs2 t2 l2 hp2 T2 hT2 => by cases hpr.symm.trans hp2; cases hm2.symm.trans hT2) (fun cs2 t2 l2 hp2 m3 hm3 Kz Zz dn lt hhz _ _ _ _ _ _ _ _ _ _ _ _ _ _ _ y49 q1 q2 => by cases hpr.symm.trans hp2; cases hm2.symm.trans hm3; exact ⟨MM_len, rfl, hq _ (INVmk ⟨hS2.sameB (fun j j0 j1 => ord_back hhz (fun i i0 i1 => hly.2.2 i (by omega) (by omega) (by omega)) j j0), hL2.sameB hS2.2.1.2.2.2.2.2.1.2 (fun j j0 j1 => ord_back hhz (fun i i0 i1 => hly.2.2 i (by omega) (by omega) (by omega)) j (by omega)), hX2⟩ ⟨(hU2.same (fun j j0 j1 => ord_back hhz (fun i i0 i1 => hly.2.2 i (by omega) (by omega) (by omega)) j j0)).sameZ (fun j j0 j1 => ord_z j j0 j1), rfl⟩ ⟨rfl, ⟨by omega, by omega⟩, hby⟩ h4 ⟨rfl, rfl, rfl, rfl⟩ (h6.upR (by decide)) ⟨q1, q2⟩ h8 h9 h10 ⟨hcx, h11.2⟩ h12)⟩)))⟩)
