section NG
variable {K : Int → Int}
theorem put_ng' (hk : KOK K) {s p : Int} (h : puR K s p < 0) : puR K s p = -1 ∨ puR K s p = -2 ∨ puR K s p = -3 ∨ puR K s p = -5 ∨ puR K s p = -6 := by
  have hn := hk.1.1
  by_cases c1 : 0 ≤ s ∧ s ≤ 11
  · by_cases c2 : 0 ≤ p ∧ p ≤ K 0
    · have ht := hk.hasR (head := 1) (s := s) (p := p) (wo := 1) c1.1 c1.2 c2.1 (by omega) (by omega)
      unfold puR at h ⊢
      rw [if_neg (fun z => z c1), if_neg (fun z => z c2)] at h ⊢
      by_cases c3 : tl K 4 s p 0 = 1
      · rw [if_pos c3]; omega
      · rw [if_neg c3] at h ⊢
        by_cases c4 : K 0 = 20
        · rw [if_pos c4]; omega
        · rw [if_neg c4] at h; omega
    · unfold puR
      rw [if_neg (fun z => z c1), if_pos c2]; omega
  · unfold puR
    rw [if_pos c1]; omega
theorem cut_ng' (hk : KOK K) {p : Int} (h : cuR K p < 0) : cuR K p = -1 ∨ cuR K p = -2 ∨ cuR K p = -3 ∨ cuR K p = -5 ∨ cuR K p = -6 := by
  have hn := hk.1.1
  by_cases c2 : 0 ≤ p ∧ p < K 0
  · have hs := hk.1.2.1 p c2.1 c2.2
    have ht := hk.hasR (head := 2) (s := K (1 + p)) (p := p) (wo := 1) (by omega) (by omega) c2.1 (by omega) (by omega)
    unfold cuR at h
    rw [if_neg (fun z => z c2)] at h
    omega
  · unfold cuR
    rw [if_pos c2]; omega
theorem turn_ng' (hk : KOK K) {p s : Int} (h : tuR K p s < 0) : tuR K p s = -1 ∨ tuR K p s = -2 ∨ tuR K p s = -3 ∨ tuR K p s = -5 ∨ tuR K p s = -6 := by
  by_cases c1 : 0 ≤ s ∧ s ≤ 11
  · by_cases c2 : 0 ≤ p ∧ p < K 0
    · have hs := hk.1.2.1 p c2.1 c2.2
      unfold tuR at h ⊢
      rw [if_neg (fun z => z c1), if_neg (fun z => z c2)] at h ⊢
      by_cases c3 : K (1 + p) = s ∨ tl K 4 s p 0 = 1
      · rw [if_pos c3]; omega
      · rw [if_neg c3] at h; omega
    · unfold tuR
      rw [if_neg (fun z => z c1), if_pos c2]; omega
  · unfold tuR
    rw [if_pos c1]; omega
end NG
theorem st_put {d : Nat} {mem : List xM} {s : Int} (r_s : R32 s) {p : Int} (r_p : R32 p) (hI : INVm mem) {Q : List xM → Option Value → Prop} (kk : ∀ mem1 v, M148 mem1 → vI v → (∀ Q2 : List xM → Option Value → Prop, (∀ mem2, INVm mem2 → Q2 mem2 (some v)) → CT true m_Mod_put (d + 92) [.ref 148, .int (ii s), .int (ii p)] mem1 0 0 Q2) → Q mem1 (some v)) : CT true m_Hou_put (d + 92) [.ref 0, .int (ii s), .int (ii p)] mem 0 0 Q := by
  refine hI (fun mem => CT true m_Hou_put (d + 92) [.ref 0, .int (ii s), .int (ii p)] mem 0 0 Q) ?_
  intro hdn bl sp su lc fo rn rl rp pz pn fl td br dz ez rdn rlt rbr fz rs rm rd ro tm kp by_ tk ps pv pw sk wd dk dl dg rsk wr rf qI aI bI cI gI pI yI qF aF bF cF gF eF fF pF yF nF pr be wy lx qx ax bx cx ts i0 i6 i8 i9 i10 i13 i14 i18 i19 i20 i21 i22 i23 i24 i25 i27 i28 i33 i42 i43 i44 i45 i46 i47 i48 i51 i52 x1 x2 x3 x4 x5 x7 x11 x12 x15 x16 x17 x26 x29 x30 x31 x32 x34 x35 x36 x37 x38 x39 x40 x41 x49 x50 h1 h2 h3 h4 h5 h6 h7 h8 h9 h10 h11 h12
  obtain ⟨hS, hL, hX⟩ := id h1
  obtain ⟨hU, hdz⟩ := h2
  subst hdz
  obtain ⟨rfl, ⟨z0_, z1_⟩, hby⟩ := id h3
  obtain ⟨rfl, rfl, rfl, rfl⟩ := h5
  have hKR := hS.2.1
  have hKK := hL.kok hKR
  have hn20 := hKR.1
  have hu16 := hU.1
  refine E_X0 (args := [.ref 0, .int (ii s), .int (ii p)]) CH_len MM_len rfl ?_
  rw [← WH_eq]
  exact t_Hou_put hS hL hU r_s r_p (fun hc td br sk wd => ⟨(C_H hdn bl sp (puR x2 s p) lc fo rn rl rp pz pn fl td br dz ez rdn rlt rbr fz rs rm rd ro tm kp by_ tk ps pv pw sk wd dk dl dg rsk wr (up rf (rix (puR x2 s p)) (rf (rix (puR x2 s p)) + 1)) qI aI bI cI gI pI yI qF aF bF cF gF eF fF pF yF nF pr be wy lx qx ax bx cx), WH_eq, CH_len, rfl, kk _ _ (M148_of CH_len MM_len ⟨_, rfl⟩) ⟨_, rfl⟩ (fun Q2 hq => E_M (args := [.ref 0, .int (ii s), .int (ii p)]) CH_len MM_len rfl (t_Mod_put hKK hu16.1 hu16.2 r_s r_p (fun _ => (fun _ _ _ _ _ _ _ => ⟨MM_len, rfl, hq _ (INVmk h1 ⟨hU, rfl⟩ h3 h4 ⟨rfl, rfl, rfl, rfl⟩ (h6.upR (put_ng' hKK hc)) h7 h8 h9 h10 h11 h12)⟩)) (fun hn => absurd hc (by omega))))⟩) (fun hc rn rl rp td br rs rm rd ro tm sk wd dk dl dg hS2 hU2 hh2 => ⟨(C_H hdn bl sp 0 lc fo rn rl rp pz pn fl td br (shU dz + 1) ez rdn rlt rbr fz rs rm rd ro tm kp by_ tk ps pv pw sk wd dk dl dg rsk wr rf qI aI bI cI gI pI yI qF aF bF cF gF eF fF pF yF nF pr be wy lx qx ax bx cx), WH_eq, CH_len, rfl, kk _ _ (M148_of CH_len MM_len ⟨_, rfl⟩) ⟨_, rfl⟩ (fun Q2 hq => E_M (args := [.ref 0, .int (ii s), .int (ii p)]) CH_len MM_len rfl (t_Mod_put hKK hu16.1 hu16.2 r_s r_p (fun hn => absurd hn (by omega)) (fun _ => (fun _ _ _ _ _ _ _ => ⟨MM_len, rfl, hq _ (INVmk ⟨hS2, hL.of22 hh2, hX⟩ ⟨hU2, rfl⟩ h3 h4 ⟨rfl, rfl, rfl, rfl⟩ h6 h7 h8 h9 h10 h11 h12)⟩))))⟩)
theorem st_cut {d : Nat} {mem : List xM} {p : Int} (r_p : R32 p) (hI : INVm mem) {Q : List xM → Option Value → Prop} (kk : ∀ mem1 v, M148 mem1 → vI v → (∀ Q2 : List xM → Option Value → Prop, (∀ mem2, INVm mem2 → Q2 mem2 (some v)) → CT true m_Mod_cut (d + 92) [.ref 148, .int (ii p)] mem1 0 0 Q2) → Q mem1 (some v)) : CT true m_Hou_cut (d + 92) [.ref 0, .int (ii p)] mem 0 0 Q := by
  refine hI (fun mem => CT true m_Hou_cut (d + 92) [.ref 0, .int (ii p)] mem 0 0 Q) ?_
  intro hdn bl sp su lc fo rn rl rp pz pn fl td br dz ez rdn rlt rbr fz rs rm rd ro tm kp by_ tk ps pv pw sk wd dk dl dg rsk wr rf qI aI bI cI gI pI yI qF aF bF cF gF eF fF pF yF nF pr be wy lx qx ax bx cx ts i0 i6 i8 i9 i10 i13 i14 i18 i19 i20 i21 i22 i23 i24 i25 i27 i28 i33 i42 i43 i44 i45 i46 i47 i48 i51 i52 x1 x2 x3 x4 x5 x7 x11 x12 x15 x16 x17 x26 x29 x30 x31 x32 x34 x35 x36 x37 x38 x39 x40 x41 x49 x50 h1 h2 h3 h4 h5 h6 h7 h8 h9 h10 h11 h12
  obtain ⟨hS, hL, hX⟩ := id h1
  obtain ⟨hU, hdz⟩ := h2
  subst hdz
  obtain ⟨rfl, ⟨z0_, z1_⟩, hby⟩ := id h3
  obtain ⟨rfl, rfl, rfl, rfl⟩ := h5
  have hKR := hS.2.1
  have hKK := hL.kok hKR
  have hn20 := hKR.1
  have hu16 := hU.1
  refine E_X0 (args := [.ref 0, .int (ii p)]) CH_len MM_len rfl ?_
  rw [← WH_eq]
  exact t_Hou_cut hS hL hU r_p (fun hc td br sk wd => ⟨(C_H hdn bl sp (cuR x2 p) lc fo rn rl rp pz pn fl td br dz ez rdn rlt rbr fz rs rm rd ro tm kp by_ tk ps pv pw sk wd dk dl dg rsk wr (up rf (rix (cuR x2 p)) (rf (rix (cuR x2 p)) + 1)) qI aI bI cI gI pI yI qF aF bF cF gF eF fF pF yF nF pr be wy lx qx ax bx cx), WH_eq, CH_len, rfl, kk _ _ (M148_of CH_len MM_len ⟨_, rfl⟩) ⟨_, rfl⟩ (fun Q2 hq => E_M (args := [.ref 0, .int (ii p)]) CH_len MM_len rfl (t_Mod_cut hKK hu16.1 hu16.2 r_p (fun _ => (fun _ _ _ _ _ _ _ => ⟨MM_len, rfl, hq _ (INVmk h1 ⟨hU, rfl⟩ h3 h4 ⟨rfl, rfl, rfl, rfl⟩ (h6.upR (cut_ng' hKK hc)) h7 h8 h9 h10 h11 h12)⟩)) (fun hn => absurd hc (by omega))))⟩) (fun hc rn rl rp td br rs rm rd ro tm sk wd dk dl dg hS2 hU2 hh2 => ⟨(C_H hdn bl sp 0 lc fo rn rl rp pz pn fl td br (shU dz + 1) ez rdn rlt rbr fz rs rm rd ro tm kp by_ tk ps pv pw sk wd dk dl dg rsk wr rf qI aI bI cI gI pI yI qF aF bF cF gF eF fF pF yF nF pr be wy lx qx ax bx cx), WH_eq, CH_len, rfl, kk _ _ (M148_of CH_len MM_len ⟨_, rfl⟩) ⟨_, rfl⟩ (fun Q2 hq => E_M (args := [.ref 0, .int (ii p)]) CH_len MM_len rfl (t_Mod_cut hKK hu16.1 hu16.2 r_p (fun hn => absurd hn (by omega)) (fun _ => (fun _ _ _ _ _ _ _ => ⟨MM_len, rfl, hq _ (INVmk ⟨hS2, hL.of22 hh2, hX⟩ ⟨hU2, rfl⟩ h3 h4 ⟨rfl, rfl, rfl, rfl⟩ h6 h7 h8 h9 h10 h11 h12)⟩))))⟩)
theorem st_turn {d : Nat} {mem : List xM} {p : Int} (r_p : R32 p) {s : Int} (r_s : R32 s) (hI : INVm mem) {Q : List xM → Option Value → Prop} (kk : ∀ mem1 v, M148 mem1 → vI v → (∀ Q2 : List xM → Option Value → Prop, (∀ mem2, INVm mem2 → Q2 mem2 (some v)) → CT true m_Mod_turn (d + 92) [.ref 148, .int (ii p), .int (ii s)] mem1 0 0 Q2) → Q mem1 (some v)) : CT true m_Hou_turn (d + 92) [.ref 0, .int (ii p), .int (ii s)] mem 0 0 Q := by
  refine hI (fun mem => CT true m_Hou_turn (d + 92) [.ref 0, .int (ii p), .int (ii s)] mem 0 0 Q) ?_
  intro hdn bl sp su lc fo rn rl rp pz pn fl td br dz ez rdn rlt rbr fz rs rm rd ro tm kp by_ tk ps pv pw sk wd dk dl dg rsk wr rf qI aI bI cI gI pI yI qF aF bF cF gF eF fF pF yF nF pr be wy lx qx ax bx cx ts i0 i6 i8 i9 i10 i13 i14 i18 i19 i20 i21 i22 i23 i24 i25 i27 i28 i33 i42 i43 i44 i45 i46 i47 i48 i51 i52 x1 x2 x3 x4 x5 x7 x11 x12 x15 x16 x17 x26 x29 x30 x31 x32 x34 x35 x36 x37 x38 x39 x40 x41 x49 x50 h1 h2 h3 h4 h5 h6 h7 h8 h9 h10 h11 h12
  obtain ⟨hS, hL, hX⟩ := id h1
  obtain ⟨hU, hdz⟩ := h2
  subst hdz
  obtain ⟨rfl, ⟨z0_, z1_⟩, hby⟩ := id h3
  obtain ⟨rfl, rfl, rfl, rfl⟩ := h5
  have hKR := hS.2.1
  have hKK := hL.kok hKR
  have hn20 := hKR.1
  have hu16 := hU.1
  refine E_X0 (args := [.ref 0, .int (ii p), .int (ii s)]) CH_len MM_len rfl ?_
  rw [← WH_eq]
  exact t_Hou_turn hS hL hU r_s r_p (fun hc td br sk wd => ⟨(C_H hdn bl sp (tuR x2 p s) lc fo rn rl rp pz pn fl td br dz ez rdn rlt rbr fz rs rm rd ro tm kp by_ tk ps pv pw sk wd dk dl dg rsk wr (up rf (rix (tuR x2 p s)) (rf (rix (tuR x2 p s)) + 1)) qI aI bI cI gI pI yI qF aF bF cF gF eF fF pF yF nF pr be wy lx qx ax bx cx), WH_eq, CH_len, rfl, kk _ _ (M148_of CH_len MM_len ⟨_, rfl⟩) ⟨_, rfl⟩ (fun Q2 hq => E_M (args := [.ref 0, .int (ii p), .int (ii s)]) CH_len MM_len rfl (t_Mod_turn hKK hu16.1 hu16.2 r_s r_p (fun _ => (fun _ _ _ _ _ _ _ => ⟨MM_len, rfl, hq _ (INVmk h1 ⟨hU, rfl⟩ h3 h4 ⟨rfl, rfl, rfl, rfl⟩ (h6.upR (turn_ng' hKK hc)) h7 h8 h9 h10 h11 h12)⟩)) (fun hn => absurd hc (by omega))))⟩) (fun hc rn rl rp td br rs rm rd ro tm sk wd dk dl dg hS2 hU2 hh2 => ⟨(C_H hdn bl sp 0 lc fo rn rl rp pz pn fl td br (shU dz + 1) ez rdn rlt rbr fz rs rm rd ro tm kp by_ tk ps pv pw sk wd dk dl dg rsk wr rf qI aI bI cI gI pI yI qF aF bF cF gF eF fF pF yF nF pr be wy lx qx ax bx cx), WH_eq, CH_len, rfl, kk _ _ (M148_of CH_len MM_len ⟨_, rfl⟩) ⟨_, rfl⟩ (fun Q2 hq => E_M (args := [.ref 0, .int (ii p), .int (ii s)]) CH_len MM_len rfl (t_Mod_turn hKK hu16.1 hu16.2 r_s r_p (fun hn => absurd hn (by omega)) (fun _ => (fun _ _ _ _ _ _ _ => ⟨MM_len, rfl, hq _ (INVmk ⟨hS2, hL.of22 hh2, hX⟩ ⟨hU2, rfl⟩ h3 h4 ⟨rfl, rfl, rfl, rfl⟩ h6 h7 h8 h9 h10 h11 h12)⟩))))⟩)
theorem st_pass {d : Nat} {mem : List xM} (hI : INVm mem) {Q : List xM → Option Value → Prop} (kk : ∀ mem1 v, M148 mem1 → vI v → (∀ Q2 : List xM → Option Value → Prop, (∀ mem2, INVm mem2 → Q2 mem2 (some v)) → CT true m_Mod_pass (d + 92) [.ref 148] mem1 0 0 Q2) → Q mem1 (some v)) : CT true m_Hou_pass (d + 92) [.ref 0] mem 0 0 Q := by
  refine hI (fun mem => CT true m_Hou_pass (d + 92) [.ref 0] mem 0 0 Q) ?_
  intro hdn bl sp su lc fo rn rl rp pz pn fl td br dz ez rdn rlt rbr fz rs rm rd ro tm kp by_ tk ps pv pw sk wd dk dl dg rsk wr rf qI aI bI cI gI pI yI qF aF bF cF gF eF fF pF yF nF pr be wy lx qx ax bx cx ts i0 i6 i8 i9 i10 i13 i14 i18 i19 i20 i21 i22 i23 i24 i25 i27 i28 i33 i42 i43 i44 i45 i46 i47 i48 i51 i52 x1 x2 x3 x4 x5 x7 x11 x12 x15 x16 x17 x26 x29 x30 x31 x32 x34 x35 x36 x37 x38 x39 x40 x41 x49 x50 h1 h2 h3 h4 h5 h6 h7 h8 h9 h10 h11 h12
  obtain ⟨hS, hL, hX⟩ := id h1
  obtain ⟨hU, hdz⟩ := h2
  subst hdz
  obtain ⟨rfl, ⟨z0_, z1_⟩, hby⟩ := id h3
  obtain ⟨rfl, rfl, rfl, rfl⟩ := h5
  have hKR := hS.2.1
  have hKK := hL.kok hKR
  have hn20 := hKR.1
  have hu16 := hU.1
  have hpg := hKR.2.2.1
  refine E_X0 (args := [.ref 0]) CH_len MM_len rfl ?_
  rw [← WH_eq]
  exact t_Hou_pass hS hL hU (fun hc => ⟨(C_H hdn bl sp (-3) lc fo rn rl rp pz pn fl td br dz ez rdn rlt rbr fz rs rm rd ro tm kp by_ tk ps pv pw sk wd dk dl dg rsk wr (up rf (rix (-3)) (rf (rix (-3)) + 1)) qI aI bI cI gI pI yI qF aF bF cF gF eF fF pF yF nF pr be wy lx qx ax bx cx), WH_eq, CH_len, rfl, kk _ _ (M148_of CH_len MM_len ⟨_, rfl⟩) ⟨_, rfl⟩ (fun Q2 hq => E_M (args := [.ref 0]) CH_len MM_len rfl (t_Mod_pass hKK hu16.1 hu16.2 (fun _ => by rw [show paR x2 = -3 from if_pos hc]; exact ⟨MM_len, rfl, hq _ (INVmk h1 ⟨hU, rfl⟩ h3 h4 ⟨rfl, rfl, rfl, rfl⟩ (h6.upR (by decide)) h7 h8 h9 h10 h11 h12)⟩) (fun hn => absurd hn (by rw [show paR x2 = -3 from if_pos hc]; decide))))⟩) (fun hc rn rl rp td br rs rm rd ro tm sk wd dk dl dg hS2 hU2 hh2 => ⟨(C_H hdn bl sp 0 lc fo rn rl rp pz pn fl td br (shU dz + 1) ez rdn rlt rbr fz rs rm rd ro tm kp by_ tk ps pv pw sk wd dk dl dg rsk wr rf qI aI bI cI gI pI yI qF aF bF cF gF eF fF pF yF nF pr be wy lx qx ax bx cx), WH_eq, CH_len, rfl, kk _ _ (M148_of CH_len MM_len ⟨_, rfl⟩) ⟨_, rfl⟩ (fun Q2 hq => E_M (args := [.ref 0]) CH_len MM_len rfl (t_Mod_pass hKK hu16.1 hu16.2 (fun hn => absurd hn (by rw [show paR x2 = x2 21 + 1 from if_neg (by omega)]; omega)) (fun _ => by rw [show paR x2 = x2 21 + 1 from if_neg (by omega)]; exact ⟨MM_len, rfl, hq _ (INVmk ⟨hS2, hL.of22 hh2, hX⟩ ⟨hU2, rfl⟩ h3 h4 ⟨rfl, rfl, rfl, rfl⟩ h6 h7 h8 h9 h10 h11 h12)⟩)))⟩)
theorem st_undo {d : Nat} {mem : List xM} (hI : INVm mem) {Q : List xM → Option Value → Prop} (kk : ∀ mem1 v, M148 mem1 → vI v → (∀ Q2 : List xM → Option Value → Prop, (∀ mem2, INVm mem2 → Q2 mem2 (some v)) → CT true m_Mod_undo (d + 92) [.ref 148] mem1 0 0 Q2) → Q mem1 (some v)) : CT true m_Hou_undo (d + 92) [.ref 0] mem 0 0 Q := by
  refine hI (fun mem => CT true m_Hou_undo (d + 92) [.ref 0] mem 0 0 Q) ?_
  intro hdn bl sp su lc fo rn rl rp pz pn fl td br dz ez rdn rlt rbr fz rs rm rd ro tm kp by_ tk ps pv pw sk wd dk dl dg rsk wr rf qI aI bI cI gI pI yI qF aF bF cF gF eF fF pF yF nF pr be wy lx qx ax bx cx ts i0 i6 i8 i9 i10 i13 i14 i18 i19 i20 i21 i22 i23 i24 i25 i27 i28 i33 i42 i43 i44 i45 i46 i47 i48 i51 i52 x1 x2 x3 x4 x5 x7 x11 x12 x15 x16 x17 x26 x29 x30 x31 x32 x34 x35 x36 x37 x38 x39 x40 x41 x49 x50 h1 h2 h3 h4 h5 h6 h7 h8 h9 h10 h11 h12
  obtain ⟨hS, hL, hX⟩ := id h1
  obtain ⟨hU, hdz⟩ := h2
  subst hdz
  obtain ⟨rfl, ⟨z0_, z1_⟩, hby⟩ := id h3
  obtain ⟨rfl, rfl, rfl, rfl⟩ := h5
  have hKR := hS.2.1
  have hKK := hL.kok hKR
  have hn20 := hKR.1
  have hu16 := hU.1
  refine E_X0 (args := [.ref 0]) CH_len MM_len rfl ?_
  rw [← WH_eq]
  exact t_Hou_undo hS hL hU (fun hc => ⟨(C_H hdn bl sp (-3) lc fo rn rl rp pz pn fl td br dz ez rdn rlt rbr fz rs rm rd ro tm kp by_ tk ps pv pw sk wd dk dl dg rsk wr (up rf (rix (-3)) (rf (rix (-3)) + 1)) qI aI bI cI gI pI yI qF aF bF cF gF eF fF pF yF nF pr be wy lx qx ax bx cx), WH_eq, CH_len, rfl, kk _ _ (M148_of CH_len MM_len ⟨_, rfl⟩) ⟨_, rfl⟩ (fun Q2 hq => E_M (args := [.ref 0]) CH_len MM_len rfl (t_Mod_undo hu16.1 hu16.2 (fun _ => ⟨MM_len, rfl, hq _ (INVmk h1 ⟨hU, rfl⟩ h3 h4 ⟨rfl, rfl, rfl, rfl⟩ (h6.upR (by decide)) h7 h8 h9 h10 h11 h12)⟩) (fun hn => absurd hc hn)))⟩) (fun hc rn rl rp td br rs rm rd ro tm sk wd dk dl dg hS2 hU2 => ⟨(C_H hdn bl sp 0 lc fo rn rl rp pz pn fl td br (dz - 1) ez rdn rlt rbr fz rs rm rd ro tm kp by_ tk ps pv pw sk wd dk dl dg rsk wr rf qI aI bI cI gI pI yI qF aF bF cF gF eF fF pF yF nF pr be wy lx qx ax bx cx), WH_eq, CH_len, rfl, kk _ _ (M148_of CH_len MM_len ⟨_, rfl⟩) ⟨_, rfl⟩ (fun Q2 hq => E_M (args := [.ref 0]) CH_len MM_len rfl (t_Mod_undo hu16.1 hu16.2 (fun hn => absurd hn (by omega)) (fun _ => ⟨MM_len, rfl, hq _ (INVmk ⟨hS2, hL.of22 (fun j hj => undo_hi hj), hX⟩ ⟨hU2, rfl⟩ h3 h4 ⟨rfl, rfl, rfl, rfl⟩ h6 h7 h8 h9 h10 h11 h12)⟩)))⟩)
theorem st_at {d : Nat} {mem : List xM} {p : Int} (r_p : R32 p) {what : Int} (r_what : R32 what) (hI : INVm mem) {Q : List xM → Option Value → Prop} (kk : ∀ mem1 v, M148 mem1 → vI v → (∀ Q2 : List xM → Option Value → Prop, (∀ mem2, INVm mem2 → Q2 mem2 (some v)) → CT true m_Mod_at (d + 92) [.ref 148, .int (ii p), .int (ii what)] mem1 0 0 Q2) → Q mem1 (some v)) : CT true m_Hou_at (d + 92) [.ref 0, .int (ii p), .int (ii what)] mem 0 0 Q := by
  refine hI (fun mem => CT true m_Hou_at (d + 92) [.ref 0, .int (ii p), .int (ii what)] mem 0 0 Q) ?_
  intro hdn bl sp su lc fo rn rl rp pz pn fl td br dz ez rdn rlt rbr fz rs rm rd ro tm kp by_ tk ps pv pw sk wd dk dl dg rsk wr rf qI aI bI cI gI pI yI qF aF bF cF gF eF fF pF yF nF pr be wy lx qx ax bx cx ts i0 i6 i8 i9 i10 i13 i14 i18 i19 i20 i21 i22 i23 i24 i25 i27 i28 i33 i42 i43 i44 i45 i46 i47 i48 i51 i52 x1 x2 x3 x4 x5 x7 x11 x12 x15 x16 x17 x26 x29 x30 x31 x32 x34 x35 x36 x37 x38 x39 x40 x41 x49 x50 h1 h2 h3 h4 h5 h6 h7 h8 h9 h10 h11 h12
  obtain ⟨hS, hL, hX⟩ := id h1
  obtain ⟨hU, hdz⟩ := h2
  subst hdz
  obtain ⟨rfl, ⟨z0_, z1_⟩, hby⟩ := id h3
  obtain ⟨rfl, rfl, rfl, rfl⟩ := h5
  have hKR := hS.2.1
  have hKK := hL.kok hKR
  have hn20 := hKR.1
  have hu16 := hU.1
  refine E_X0 (args := [.ref 0, .int (ii p), .int (ii what)]) CH_len MM_len rfl ?_
  rw [← WH_eq]
  exact t_Hou_at hS hL r_p r_what (fun hc => ⟨(C_H hdn bl sp su lc fo rn rl rp pz pn fl td br dz ez rdn rlt rbr fz rs rm rd ro tm kp by_ tk ps pv pw sk wd dk dl dg rsk wr rf qI aI bI cI gI pI yI qF aF bF cF gF eF fF pF yF nF pr be wy lx qx ax bx cx), WH_eq, CH_len, rfl, kk _ _ (M148_of CH_len MM_len ⟨_, rfl⟩) ⟨_, rfl⟩ (fun Q2 hq => E_M (args := [.ref 0, .int (ii p), .int (ii what)]) CH_len MM_len rfl (t_Mod_at r_p r_what hn20.1 hn20.2 hKR.2.1 (fun _ => ⟨MM_len, rfl, hq _ (INVmk h1 ⟨hU, rfl⟩ h3 h4 ⟨rfl, rfl, rfl, rfl⟩ h6 h7 h8 h9 h10 h11 h12)⟩) (fun hn => absurd hn hc)))⟩) (fun hc rl rp rm rd ro hR2 => ⟨(C_H hdn bl sp su lc fo rn rl rp pz pn fl td br dz ez rdn rlt rbr fz rs rm rd ro tm kp by_ tk ps pv pw sk wd dk dl dg rsk wr rf qI aI bI cI gI pI yI qF aF bF cF gF eF fF pF yF nF pr be wy lx qx ax bx cx), WH_eq, CH_len, rfl, kk _ _ (M148_of CH_len MM_len ⟨_, rfl⟩) ⟨_, rfl⟩ (fun Q2 hq => E_M (args := [.ref 0, .int (ii p), .int (ii what)]) CH_len MM_len rfl (t_Mod_at r_p r_what hn20.1 hn20.2 hKR.2.1 (fun hn => absurd hc hn) (fun _ => ⟨MM_len, rfl, hq _ (INVmk ⟨⟨hR2, hS.2⟩, hL, hX⟩ ⟨hU, rfl⟩ h3 h4 ⟨rfl, rfl, rfl, rfl⟩ h6 h7 h8 h9 h10 h11 h12)⟩)))⟩)
theorem st_said {d : Nat} {mem : List xM} (hI : INVm mem) {Q : List xM → Option Value → Prop} (kk : ∀ mem1 v, M148 mem1 → vI v → (∀ Q2 : List xM → Option Value → Prop, (∀ mem2, INVm mem2 → Q2 mem2 (some v)) → CT true m_Mod_said (d + 92) [.ref 148] mem1 0 0 Q2) → Q mem1 (some v)) : CT true m_Hou_said (d + 92) [.ref 0] mem 0 0 Q := by
  refine hI (fun mem => CT true m_Hou_said (d + 92) [.ref 0] mem 0 0 Q) ?_
  intro hdn bl sp su lc fo rn rl rp pz pn fl td br dz ez rdn rlt rbr fz rs rm rd ro tm kp by_ tk ps pv pw sk wd dk dl dg rsk wr rf qI aI bI cI gI pI yI qF aF bF cF gF eF fF pF yF nF pr be wy lx qx ax bx cx ts i0 i6 i8 i9 i10 i13 i14 i18 i19 i20 i21 i22 i23 i24 i25 i27 i28 i33 i42 i43 i44 i45 i46 i47 i48 i51 i52 x1 x2 x3 x4 x5 x7 x11 x12 x15 x16 x17 x26 x29 x30 x31 x32 x34 x35 x36 x37 x38 x39 x40 x41 x49 x50 h1 h2 h3 h4 h5 h6 h7 h8 h9 h10 h11 h12
  obtain ⟨hS, hL, hX⟩ := id h1
  obtain ⟨hU, hdz⟩ := h2
  subst hdz
  obtain ⟨rfl, ⟨z0_, z1_⟩, hby⟩ := id h3
  obtain ⟨rfl, rfl, rfl, rfl⟩ := h5
  have hKR := hS.2.1
  have hKK := hL.kok hKR
  have hn20 := hKR.1
  have hu16 := hU.1
  refine E_X0 (args := [.ref 0]) CH_len MM_len rfl ?_
  rw [← WH_eq]
  exact t_Hou_said hS hL (fun rl rp rm rd ro hR2 => ⟨(C_H hdn bl sp su lc fo rn rl rp pz pn fl td br dz ez rdn rlt rbr fz rs rm rd ro tm kp by_ tk ps pv pw sk wd dk dl dg rsk wr rf qI aI bI cI gI pI yI qF aF bF cF gF eF fF pF yF nF pr be wy lx qx ax bx cx), WH_eq, CH_len, rfl, kk _ _ (M148_of CH_len MM_len ⟨_, rfl⟩) ⟨_, rfl⟩ (fun Q2 hq => E_M (args := [.ref 0]) CH_len MM_len rfl (t_Mod_said hn20.1 hn20.2 hKR.2.1 (⟨MM_len, rfl, hq _ (INVmk ⟨⟨hR2, hS.2⟩, hL, hX⟩ ⟨hU, rfl⟩ h3 h4 ⟨rfl, rfl, rfl, rfl⟩ h6 h7 h8 h9 h10 h11 h12)⟩)))⟩)
theorem st_whole {d : Nat} {mem : List xM} {a : Int} (r_a : R32 a) {b : Int} (r_b : R32 b) (hI : INVm mem) {Q : List xM → Option Value → Prop} (kk : ∀ mem1 v, M148 mem1 → vI v → (∀ Q2 : List xM → Option Value → Prop, (∀ mem2, INVm mem2 → Q2 mem2 (some v)) → CT true m_Mod_whole (d + 92) [.ref 148, .int (ii a), .int (ii b)] mem1 0 0 Q2) → Q mem1 (some v)) : CT true m_Hou_whole (d + 92) [.ref 0, .int (ii a), .int (ii b)] mem 0 0 Q := by
  refine hI (fun mem => CT true m_Hou_whole (d + 92) [.ref 0, .int (ii a), .int (ii b)] mem 0 0 Q) ?_
  intro hdn bl sp su lc fo rn rl rp pz pn fl td br dz ez rdn rlt rbr fz rs rm rd ro tm kp by_ tk ps pv pw sk wd dk dl dg rsk wr rf qI aI bI cI gI pI yI qF aF bF cF gF eF fF pF yF nF pr be wy lx qx ax bx cx ts i0 i6 i8 i9 i10 i13 i14 i18 i19 i20 i21 i22 i23 i24 i25 i27 i28 i33 i42 i43 i44 i45 i46 i47 i48 i51 i52 x1 x2 x3 x4 x5 x7 x11 x12 x15 x16 x17 x26 x29 x30 x31 x32 x34 x35 x36 x37 x38 x39 x40 x41 x49 x50 h1 h2 h3 h4 h5 h6 h7 h8 h9 h10 h11 h12
  obtain ⟨hS, hL, hX⟩ := id h1
  obtain ⟨hU, hdz⟩ := h2
  subst hdz
  obtain ⟨rfl, ⟨z0_, z1_⟩, hby⟩ := id h3
  obtain ⟨rfl, rfl, rfl, rfl⟩ := h5
  have hKR := hS.2.1
  have hKK := hL.kok hKR
  have hn20 := hKR.1
  have hu16 := hU.1
  refine E_X0 (args := [.ref 0, .int (ii a), .int (ii b)]) CH_len MM_len rfl ?_
  rw [← WH_eq]
  exact t_Hou_whole hS hL r_a r_b (fun hc hl rl rp rm rd ro hR2 => ⟨(C_H hdn bl sp su lc fo rn rl rp pz pn fl td br dz ez rdn rlt rbr fz rs rm rd ro tm kp by_ tk ps pv pw sk wd dk dl dg rsk wr rf qI aI bI cI gI pI yI qF aF bF cF gF eF fF pF yF nF pr be wy lx qx ax bx cx), WH_eq, CH_len, rfl, kk _ _ (M148_of CH_len MM_len ⟨_, rfl⟩) ⟨_, rfl⟩ (fun Q2 hq => E_M (args := [.ref 0, .int (ii a), .int (ii b)]) CH_len MM_len rfl (t_Mod_whole r_a r_b hn20.1 hn20.2 hKR.2.1 (fun m _ e _ => ⟨MM_len, rfl, hq _ (INVmk ⟨⟨hR2, hS.2⟩, hL, hX⟩ ⟨hU, rfl⟩ h3 h4 ⟨rfl, rfl, rfl, rfl⟩ h6 h7 h8 h9 h10 h11 h12)⟩) (fun m _ e hn => absurd (by rw [e, lo_eq]; exact hl) hn) (fun hn => absurd hc hn)))⟩) (fun hc hl rl rp rm rd ro hR2 => ⟨(C_H hdn bl sp su lc fo rn rl rp pz pn fl td br dz ez rdn rlt rbr fz rs rm rd ro tm kp by_ tk ps pv pw sk wd dk dl dg rsk wr rf qI aI bI cI gI pI yI qF aF bF cF gF eF fF pF yF nF pr be wy lx qx ax bx cx), WH_eq, CH_len, rfl, kk _ _ (M148_of CH_len MM_len ⟨_, rfl⟩) ⟨_, rfl⟩ (fun Q2 hq => E_M (args := [.ref 0, .int (ii a), .int (ii b)]) CH_len MM_len rfl (t_Mod_whole r_a r_b hn20.1 hn20.2 hKR.2.1 (fun m _ e hn => absurd (by rw [e, lo_eq] at hn; exact hn) hl) (fun m _ e _ => ⟨MM_len, rfl, hq _ (INVmk ⟨⟨hR2, hS.2⟩, hL, hX⟩ ⟨hU, rfl⟩ h3 h4 ⟨rfl, rfl, rfl, rfl⟩ h6 h7 h8 h9 h10 h11 h12)⟩) (fun hn => absurd hc hn)))⟩) (fun hc => ⟨(C_H hdn bl sp su lc fo rn rl rp pz pn fl td br dz ez rdn rlt rbr fz rs rm rd ro tm kp by_ tk ps pv pw sk wd dk dl dg rsk wr rf qI aI bI cI gI pI yI qF aF bF cF gF eF fF pF yF nF pr be wy lx qx ax bx cx), WH_eq, CH_len, rfl, kk _ _ (M148_of CH_len MM_len ⟨_, rfl⟩) ⟨_, rfl⟩ (fun Q2 hq => E_M (args := [.ref 0, .int (ii a), .int (ii b)]) CH_len MM_len rfl (t_Mod_whole r_a r_b hn20.1 hn20.2 hKR.2.1 (fun m hn _ _ => absurd hn hc) (fun m hn _ _ => absurd hn hc) (fun _ => ⟨MM_len, rfl, hq _ (INVmk h1 ⟨hU, rfl⟩ h3 h4 ⟨rfl, rfl, rfl, rfl⟩ h6 h7 h8 h9 h10 h11 h12)⟩)))⟩)
theorem st_mend {d : Nat} {mem : List xM} {w : Int} (r_w : R32 w) (hI : INVm mem) {Q : List xM → Option Value → Prop} (kk : ∀ mem1 v, M148 mem1 → vI v → (∀ Q2 : List xM → Option Value → Prop, (∀ mem2, INVm mem2 → Q2 mem2 (some v)) → CT true m_Mod_mend (d + 92) [.ref 148, .int (ii w)] mem1 0 0 Q2) → Q mem1 (some v)) : CT true m_Hou_mend (d + 92) [.ref 0, .int (ii w)] mem 0 0 Q := by
  refine hI (fun mem => CT true m_Hou_mend (d + 92) [.ref 0, .int (ii w)] mem 0 0 Q) ?_
  intro hdn bl sp su lc fo rn rl rp pz pn fl td br dz ez rdn rlt rbr fz rs rm rd ro tm kp by_ tk ps pv pw sk wd dk dl dg rsk wr rf qI aI bI cI gI pI yI qF aF bF cF gF eF fF pF yF nF pr be wy lx qx ax bx cx ts i0 i6 i8 i9 i10 i13 i14 i18 i19 i20 i21 i22 i23 i24 i25 i27 i28 i33 i42 i43 i44 i45 i46 i47 i48 i51 i52 x1 x2 x3 x4 x5 x7 x11 x12 x15 x16 x17 x26 x29 x30 x31 x32 x34 x35 x36 x37 x38 x39 x40 x41 x49 x50 h1 h2 h3 h4 h5 h6 h7 h8 h9 h10 h11 h12
  obtain ⟨hS, hL, hX⟩ := id h1
  obtain ⟨hU, hdz⟩ := h2
  subst hdz
  obtain ⟨rfl, ⟨z0_, z1_⟩, hby⟩ := id h3
  obtain ⟨rfl, rfl, rfl, rfl⟩ := h5
  have hKR := hS.2.1
  have hKK := hL.kok hKR
  have hn20 := hKR.1
  have hu16 := hU.1
  refine E_X0 (args := [.ref 0, .int (ii w)]) CH_len MM_len rfl ?_
  rw [← WH_eq]
  exact t_Hou_mend hS hL h11.2 r_w (fun hc => ⟨(C_H hdn bl sp su lc fo rn rl rp pz pn fl td br dz ez rdn rlt rbr fz rs rm rd ro tm kp by_ tk ps pv pw sk wd dk dl dg rsk wr rf qI aI bI cI gI pI yI qF aF bF cF gF eF fF pF yF nF pr be wy lx qx ax bx cx), WH_eq, CH_len, rfl, kk _ _ (M148_of CH_len MM_len ⟨_, rfl⟩) ⟨_, rfl⟩ (fun Q2 hq => E_M (args := [.ref 0, .int (ii w)]) CH_len MM_len rfl (t_Mod_mend hKK r_w (fun _ => ⟨MM_len, rfl, hq _ (INVmk h1 ⟨hU, rfl⟩ h3 h4 ⟨rfl, rfl, rfl, rfl⟩ h6 h7 h8 h9 h10 h11 h12)⟩) (fun hn => absurd hn hc)))⟩) (fun hc td br sk wd pI yI pF yF pr be hp7 => ⟨(C_H hdn bl sp su lc fo rn rl rp pz pn fl td br dz ez rdn rlt rbr fz rs rm rd ro tm kp by_ tk ps pv pw sk wd dk dl dg rsk wr rf qI aI bI cI gI pI yI qF aF bF cF gF eF fF pF yF nF pr be wy lx qx ax bx cx), WH_eq, CH_len, rfl, kk _ _ (M148_of CH_len MM_len ⟨_, rfl⟩) ⟨_, rfl⟩ (fun Q2 hq => E_M (args := [.ref 0, .int (ii w)]) CH_len MM_len rfl (t_Mod_mend hKK r_w (fun hn => absurd hc hn) (fun _ => (fun _ _ _ _ _ _ _ _ _ => ⟨MM_len, rfl, hq _ (INVmk h1 ⟨hU, rfl⟩ h3 h4 ⟨rfl, rfl, rfl, rfl⟩ h6 h7 h8 h9 h10 ⟨h11.1, hp7⟩ h12)⟩))))⟩)
theorem st_compare {d : Nat} {mem : List xM} {w : Int} (r_w : R32 w) (hI : INVm mem) {Q : List xM → Option Value → Prop} (kk : ∀ mem1 v, M148 mem1 → vI v → (∀ Q2 : List xM → Option Value → Prop, (∀ mem2, INVm mem2 → Q2 mem2 (some v)) → CT true m_Mod_compare (d + 92) [.ref 148, .int (ii w)] mem1 0 0 Q2) → Q mem1 (some v)) : CT true m_Hou_compare (d + 92) [.ref 0, .int (ii w)] mem 0 0 Q := by
  refine hI (fun mem => CT true m_Hou_compare (d + 92) [.ref 0, .int (ii w)] mem 0 0 Q) ?_
  intro hdn bl sp su lc fo rn rl rp pz pn fl td br dz ez rdn rlt rbr fz rs rm rd ro tm kp by_ tk ps pv pw sk wd dk dl dg rsk wr rf qI aI bI cI gI pI yI qF aF bF cF gF eF fF pF yF nF pr be wy lx qx ax bx cx ts i0 i6 i8 i9 i10 i13 i14 i18 i19 i20 i21 i22 i23 i24 i25 i27 i28 i33 i42 i43 i44 i45 i46 i47 i48 i51 i52 x1 x2 x3 x4 x5 x7 x11 x12 x15 x16 x17 x26 x29 x30 x31 x32 x34 x35 x36 x37 x38 x39 x40 x41 x49 x50 h1 h2 h3 h4 h5 h6 h7 h8 h9 h10 h11 h12
  obtain ⟨hS, hL, hX⟩ := id h1
  obtain ⟨hU, hdz⟩ := h2
  subst hdz
  obtain ⟨rfl, ⟨z0_, z1_⟩, hby⟩ := id h3
  obtain ⟨rfl, rfl, rfl, rfl⟩ := h5
  have hKR := hS.2.1
  have hKK := hL.kok hKR
  have hn20 := hKR.1
  have hu16 := hU.1
  refine E_X0 (args := [.ref 0, .int (ii w)]) CH_len MM_len rfl ?_
  rw [← WH_eq]
  exact t_Hou_compare hS hL h11.2 r_w (fun hc => ⟨(C_H hdn bl sp su lc fo rn rl rp pz pn fl td br dz ez rdn rlt rbr fz rs rm rd ro tm kp by_ tk ps pv pw sk wd dk dl dg rsk wr rf qI aI bI cI gI pI yI qF aF bF cF gF eF fF pF yF nF pr be wy lx qx ax bx cx), WH_eq, CH_len, rfl, kk _ _ (M148_of CH_len MM_len ⟨_, rfl⟩) ⟨_, rfl⟩ (fun Q2 hq => E_M (args := [.ref 0, .int (ii w)]) CH_len MM_len rfl (t_Mod_compare hKK r_w (fun _ => ⟨MM_len, rfl, hq _ (INVmk h1 ⟨hU, rfl⟩ h3 h4 ⟨rfl, rfl, rfl, rfl⟩ h6 h7 h8 h9 h10 h11 h12)⟩) (fun hn => absurd hn hc)))⟩) (fun hc td br sk wd pI yI pF yF pr be hp7 => ⟨(C_H hdn bl sp su lc fo rn rl rp pz pn fl td br dz ez rdn rlt rbr fz rs rm rd ro tm kp by_ tk ps pv pw sk wd dk dl dg rsk wr rf qI aI bI cI gI pI yI qF aF bF cF gF eF fF pF yF nF pr be wy lx qx ax bx cx), WH_eq, CH_len, rfl, kk _ _ (M148_of CH_len MM_len ⟨_, rfl⟩) ⟨_, rfl⟩ (fun Q2 hq => E_M (args := [.ref 0, .int (ii w)]) CH_len MM_len rfl (t_Mod_compare hKK r_w (fun hn => absurd hc hn) (fun _ => (fun _ _ _ _ _ _ _ _ _ => ⟨MM_len, rfl, hq _ (INVmk h1 ⟨hU, rfl⟩ h3 h4 ⟨rfl, rfl, rfl, rfl⟩ h6 h7 h8 h9 h10 ⟨h11.1, hp7⟩ h12)⟩))))⟩)
theorem st_strike {d : Nat} {mem : List xM} {w : Int} (r_w : R32 w) (hI : INVm mem) {Q : List xM → Option Value → Prop} (kk : ∀ mem1 v, M148 mem1 → vI v → (∀ Q2 : List xM → Option Value → Prop, (∀ mem2, INVm mem2 → Q2 mem2 (some v)) → CT true m_Mod_strike (d + 92) [.ref 148, .int (ii w)] mem1 0 0 Q2) → Q mem1 (some v)) : CT true m_Hou_strike (d + 92) [.ref 0, .int (ii w)] mem 0 0 Q := by
  refine hI (fun mem => CT true m_Hou_strike (d + 92) [.ref 0, .int (ii w)] mem 0 0 Q) ?_
  intro hdn bl sp su lc fo rn rl rp pz pn fl td br dz ez rdn rlt rbr fz rs rm rd ro tm kp by_ tk ps pv pw sk wd dk dl dg rsk wr rf qI aI bI cI gI pI yI qF aF bF cF gF eF fF pF yF nF pr be wy lx qx ax bx cx ts i0 i6 i8 i9 i10 i13 i14 i18 i19 i20 i21 i22 i23 i24 i25 i27 i28 i33 i42 i43 i44 i45 i46 i47 i48 i51 i52 x1 x2 x3 x4 x5 x7 x11 x12 x15 x16 x17 x26 x29 x30 x31 x32 x34 x35 x36 x37 x38 x39 x40 x41 x49 x50 h1 h2 h3 h4 h5 h6 h7 h8 h9 h10 h11 h12
  obtain ⟨hS, hL, hX⟩ := id h1
  obtain ⟨hU, hdz⟩ := h2
  subst hdz
  obtain ⟨rfl, ⟨z0_, z1_⟩, hby⟩ := id h3
  obtain ⟨rfl, rfl, rfl, rfl⟩ := h5
  have hKR := hS.2.1
  have hKK := hL.kok hKR
  have hn20 := hKR.1
  have hu16 := hU.1
  refine E_X0 (args := [.ref 0, .int (ii w)]) CH_len MM_len rfl ?_
  rw [← WH_eq]
  exact t_Hou_strike hS hL h11.2 (x := x37) r_w (fun hc => ⟨(C_H hdn bl sp su lc fo rn rl rp pz pn fl td br dz ez rdn rlt rbr fz rs rm rd ro tm kp by_ tk ps pv pw sk wd dk dl dg rsk wr rf qI aI bI cI gI pI yI qF aF bF cF gF eF fF pF yF nF pr be wy lx qx ax bx cx), WH_eq, CH_len, rfl, kk _ _ (M148_of CH_len MM_len ⟨_, rfl⟩) ⟨_, rfl⟩ (fun Q2 hq => E_M (args := [.ref 0, .int (ii w)]) CH_len MM_len rfl (t_Mod_strike hKK r_w (fun _ => ⟨MM_len, rfl, hq _ (INVmk h1 ⟨hU, rfl⟩ h3 h4 ⟨rfl, rfl, rfl, rfl⟩ h6 h7 h8 h9 h10 h11 h12)⟩) (fun hn => absurd hn hc)))⟩) (fun hc td br sk wd pI yI pF yF pr be hp7 => ⟨(C_H hdn bl sp su lc fo rn rl rp pz pn fl td br dz ez rdn rlt rbr fz rs rm rd ro tm kp by_ tk ps pv pw sk wd dk dl dg rsk wr rf qI aI bI cI gI pI yI qF aF bF cF gF eF fF pF yF nF pr be wy lx qx ax bx cx), WH_eq, CH_len, rfl, kk _ _ (M148_of CH_len MM_len ⟨_, rfl⟩) ⟨_, rfl⟩ (fun Q2 hq => E_M (args := [.ref 0, .int (ii w)]) CH_len MM_len rfl (t_Mod_strike hKK r_w (fun hn => absurd hc hn) (fun _ => (fun _ _ _ _ _ _ _ _ _ _ => ⟨MM_len, rfl, hq _ (INVmk h1 ⟨hU, rfl⟩ h3 h4 ⟨rfl, rfl, rfl, rfl⟩ h6 h7 h8 h9 h10 ⟨h11.1, hp7⟩ h12)⟩))))⟩)
theorem st_run {d : Nat} {mem : List xM} {w : Int} (r_w : R32 w) (hI : INVm mem) {Q : List xM → Option Value → Prop} (kk : ∀ mem1 v, M148 mem1 → vI v → (∀ Q2 : List xM → Option Value → Prop, (∀ mem2, INVm mem2 → Q2 mem2 (some v)) → CT true m_Mod_run (d + 92) [.ref 148, .int (ii w)] mem1 0 0 Q2) → Q mem1 (some v)) : CT true m_Hou_run (d + 92) [.ref 0, .int (ii w)] mem 0 0 Q := by
  refine hI (fun mem => CT true m_Hou_run (d + 92) [.ref 0, .int (ii w)] mem 0 0 Q) ?_
  intro hdn bl sp su lc fo rn rl rp pz pn fl td br dz ez rdn rlt rbr fz rs rm rd ro tm kp by_ tk ps pv pw sk wd dk dl dg rsk wr rf qI aI bI cI gI pI yI qF aF bF cF gF eF fF pF yF nF pr be wy lx qx ax bx cx ts i0 i6 i8 i9 i10 i13 i14 i18 i19 i20 i21 i22 i23 i24 i25 i27 i28 i33 i42 i43 i44 i45 i46 i47 i48 i51 i52 x1 x2 x3 x4 x5 x7 x11 x12 x15 x16 x17 x26 x29 x30 x31 x32 x34 x35 x36 x37 x38 x39 x40 x41 x49 x50 h1 h2 h3 h4 h5 h6 h7 h8 h9 h10 h11 h12
  obtain ⟨hS, hL, hX⟩ := id h1
  obtain ⟨hU, hdz⟩ := h2
  subst hdz
  obtain ⟨rfl, ⟨z0_, z1_⟩, hby⟩ := id h3
  obtain ⟨rfl, rfl, rfl, rfl⟩ := h5
  have hKR := hS.2.1
  have hKK := hL.kok hKR
  have hn20 := hKR.1
  have hu16 := hU.1
  refine E_X0 (args := [.ref 0, .int (ii w)]) CH_len MM_len rfl ?_
  rw [← WH_eq]
  exact t_Hou_run hS hL h11.2 r_w (fun hc => ⟨(C_H hdn bl sp su lc fo rn rl rp pz pn fl td br dz ez rdn rlt rbr fz rs rm rd ro tm kp by_ tk ps pv pw sk wd dk dl dg rsk wr rf qI aI bI cI gI pI yI qF aF bF cF gF eF fF pF yF nF pr be wy lx qx ax bx cx), WH_eq, CH_len, rfl, kk _ _ (M148_of CH_len MM_len ⟨_, rfl⟩) ⟨_, rfl⟩ (fun Q2 hq => E_M (args := [.ref 0, .int (ii w)]) CH_len MM_len rfl (t_Mod_run hn20.1 hn20.2 hKR.2.1 r_w (fun _ => ⟨MM_len, rfl, hq _ (INVmk h1 ⟨hU, rfl⟩ h3 h4 ⟨rfl, rfl, rfl, rfl⟩ h6 h7 h8 h9 h10 h11 h12)⟩) (fun hn => absurd hn hc)))⟩) (fun hc rl rp td br rm rd ro sk wd pI yI pF yF pr be hp7 hR2 => ⟨(C_H hdn bl sp su lc fo rn rl rp pz pn fl td br dz ez rdn rlt rbr fz rs rm rd ro tm kp by_ tk ps pv pw sk wd dk dl dg rsk wr rf qI aI bI cI gI pI yI qF aF bF cF gF eF fF pF yF nF pr be wy lx qx ax bx cx), WH_eq, CH_len, rfl, kk _ _ (M148_of CH_len MM_len ⟨_, rfl⟩) ⟨_, rfl⟩ (fun Q2 hq => E_M (args := [.ref 0, .int (ii w)]) CH_len MM_len rfl (t_Mod_run hn20.1 hn20.2 hKR.2.1 r_w (fun hn => absurd hc hn) (fun _ _ _ => ⟨MM_len, rfl, hq _ (INVmk ⟨⟨hR2, hS.2⟩, hL, hX⟩ ⟨hU, rfl⟩ h3 h4 ⟨rfl, rfl, rfl, rfl⟩ h6 h7 h8 h9 h10 ⟨h11.1, hp7⟩ h12)⟩)))⟩)
theorem st_fits {d : Nat} {mem : List xM} {p : Int} (r_p : R32 p) (hI : INVm mem) {Q : List xM → Option Value → Prop} (kk : ∀ mem1 v, M148 mem1 → vI v → (∀ Q2 : List xM → Option Value → Prop, (∀ mem2, INVm mem2 → Q2 mem2 (some v)) → CT true m_Mod_fits (d + 92) [.ref 148, .int (ii p)] mem1 0 0 Q2) → Q mem1 (some v)) : CT true m_Hou_fits (d + 92) [.ref 0, .int (ii p)] mem 0 0 Q := by
  refine hI (fun mem => CT true m_Hou_fits (d + 92) [.ref 0, .int (ii p)] mem 0 0 Q) ?_
  intro hdn bl sp su lc fo rn rl rp pz pn fl td br dz ez rdn rlt rbr fz rs rm rd ro tm kp by_ tk ps pv pw sk wd dk dl dg rsk wr rf qI aI bI cI gI pI yI qF aF bF cF gF eF fF pF yF nF pr be wy lx qx ax bx cx ts i0 i6 i8 i9 i10 i13 i14 i18 i19 i20 i21 i22 i23 i24 i25 i27 i28 i33 i42 i43 i44 i45 i46 i47 i48 i51 i52 x1 x2 x3 x4 x5 x7 x11 x12 x15 x16 x17 x26 x29 x30 x31 x32 x34 x35 x36 x37 x38 x39 x40 x41 x49 x50 h1 h2 h3 h4 h5 h6 h7 h8 h9 h10 h11 h12
  obtain ⟨hS, hL, hX⟩ := id h1
  obtain ⟨hU, hdz⟩ := h2
  subst hdz
  obtain ⟨rfl, ⟨z0_, z1_⟩, hby⟩ := id h3
  obtain ⟨rfl, rfl, rfl, rfl⟩ := h5
  have hKR := hS.2.1
  have hKK := hL.kok hKR
  have hn20 := hKR.1
  have hu16 := hU.1
  refine E_X0 (args := [.ref 0, .int (ii p)]) CH_len MM_len rfl ?_
  rw [← WH_eq]
  exact t_Hou_fits hS hL h11.2 r_p (fun hc => ⟨(C_H hdn bl sp su lc fo rn rl rp pz pn fl td br dz ez rdn rlt rbr fz rs rm rd ro tm kp by_ tk ps pv pw sk wd dk dl dg rsk wr rf qI aI bI cI gI pI yI qF aF bF cF gF eF fF pF yF nF pr be wy lx qx ax bx cx), WH_eq, CH_len, rfl, kk _ _ (M148_of CH_len MM_len ⟨_, rfl⟩) ⟨_, rfl⟩ (fun Q2 hq => E_M (args := [.ref 0, .int (ii p)]) CH_len MM_len rfl (t_Mod_fits hn20.1 hn20.2 hKR.2.1 r_p (fun _ => ⟨MM_len, rfl, hq _ (INVmk h1 ⟨hU, rfl⟩ h3 h4 ⟨rfl, rfl, rfl, rfl⟩ h6 h7 h8 h9 h10 h11 h12)⟩) (fun hn => absurd hn hc)))⟩) (fun hc td br sk wd pI yI pF yF pr be hp7 => ⟨(C_H hdn bl sp su lc fo rn rl rp pz pn fl td br dz ez rdn rlt rbr fz rs rm rd ro tm kp by_ tk ps pv pw sk wd dk dl dg rsk wr rf qI aI bI cI gI pI yI qF aF bF cF gF eF fF pF yF nF pr be wy lx qx ax bx cx), WH_eq, CH_len, rfl, kk _ _ (M148_of CH_len MM_len ⟨_, rfl⟩) ⟨_, rfl⟩ (fun Q2 hq => E_M (args := [.ref 0, .int (ii p)]) CH_len MM_len rfl (t_Mod_fits hn20.1 hn20.2 hKR.2.1 r_p (fun hn => absurd hc hn) (fun _ _ _ => ⟨MM_len, rfl, hq _ (INVmk h1 ⟨hU, rfl⟩ h3 h4 ⟨rfl, rfl, rfl, rfl⟩ h6 h7 h8 h9 h10 ⟨h11.1, hp7⟩ h12)⟩)))⟩)
theorem st_game {d : Nat} {mem : List xM} {w : Int} (r_w : R32 w) (hI : INVm mem) {Q : List xM → Option Value → Prop} (kk : ∀ mem1 v, M148 mem1 → vI v → (∀ Q2 : List xM → Option Value → Prop, (∀ mem2, INVm mem2 → Q2 mem2 (some v)) → CT true m_Mod_game (d + 92) [.ref 148, .int (ii w)] mem1 0 0 Q2) → Q mem1 (some v)) : CT true m_Hou_game (d + 92) [.ref 0, .int (ii w)] mem 0 0 Q := by
  refine hI (fun mem => CT true m_Hou_game (d + 92) [.ref 0, .int (ii w)] mem 0 0 Q) ?_
  intro hdn bl sp su lc fo rn rl rp pz pn fl td br dz ez rdn rlt rbr fz rs rm rd ro tm kp by_ tk ps pv pw sk wd dk dl dg rsk wr rf qI aI bI cI gI pI yI qF aF bF cF gF eF fF pF yF nF pr be wy lx qx ax bx cx ts i0 i6 i8 i9 i10 i13 i14 i18 i19 i20 i21 i22 i23 i24 i25 i27 i28 i33 i42 i43 i44 i45 i46 i47 i48 i51 i52 x1 x2 x3 x4 x5 x7 x11 x12 x15 x16 x17 x26 x29 x30 x31 x32 x34 x35 x36 x37 x38 x39 x40 x41 x49 x50 h1 h2 h3 h4 h5 h6 h7 h8 h9 h10 h11 h12
  obtain ⟨hS, hL, hX⟩ := id h1
  obtain ⟨hU, hdz⟩ := h2
  subst hdz
  obtain ⟨rfl, ⟨z0_, z1_⟩, hby⟩ := id h3
  obtain ⟨rfl, rfl, rfl, rfl⟩ := h5
  have hKR := hS.2.1
  have hKK := hL.kok hKR
  have hn20 := hKR.1
  have hu16 := hU.1
  refine E_X0 (args := [.ref 0, .int (ii w)]) CH_len MM_len rfl ?_
  rw [← WH_eq]
  exact t_Hou_game hS hL h11.2 r_w (fun hc => ⟨(C_H hdn bl sp su lc fo rn rl rp pz pn fl td br dz ez rdn rlt rbr fz rs rm rd ro tm kp by_ tk ps pv pw sk wd dk dl dg rsk wr rf qI aI bI cI gI pI yI qF aF bF cF gF eF fF pF yF nF pr be wy lx qx ax bx cx), WH_eq, CH_len, rfl, kk _ _ (M148_of CH_len MM_len ⟨_, rfl⟩) ⟨_, rfl⟩ (fun Q2 hq => E_M (args := [.ref 0, .int (ii w)]) CH_len MM_len rfl (t_Mod_game hKK r_w (fun _ => ⟨MM_len, rfl, hq _ (INVmk h1 ⟨hU, rfl⟩ h3 h4 ⟨rfl, rfl, rfl, rfl⟩ h6 h7 h8 h9 h10 h11 h12)⟩) (fun _ _ _ _ _ _ _ _ _ => by rw [show gmR x2 w = -100000 from if_pos hc]; exact ⟨MM_len, rfl, hq _ (INVmk h1 ⟨hU, rfl⟩ h3 h4 ⟨rfl, rfl, rfl, rfl⟩ h6 h7 h8 h9 h10 h11 h12)⟩)))⟩) (fun hc td br sk wd pI yI pF yF pr be hp7 => ⟨(C_H hdn bl sp su lc fo rn rl rp pz pn fl td br dz ez rdn rlt rbr fz rs rm rd ro tm kp by_ tk ps pv pw sk wd dk dl dg rsk wr rf qI aI bI cI gI pI yI qF aF bF cF gF eF fF pF yF nF pr be wy lx qx ax bx cx), WH_eq, CH_len, rfl, kk _ _ (M148_of CH_len MM_len ⟨_, rfl⟩) ⟨_, rfl⟩ (fun Q2 hq => E_M (args := [.ref 0, .int (ii w)]) CH_len MM_len rfl (t_Mod_game hKK r_w (fun hn => absurd hn hc) (fun _ _ _ _ _ _ _ _ _ => ⟨MM_len, rfl, hq _ (INVmk h1 ⟨hU, rfl⟩ h3 h4 ⟨rfl, rfl, rfl, rfl⟩ h6 h7 h8 h9 h10 ⟨h11.1, hp7⟩ h12)⟩)))⟩)
theorem st_rows {d : Nat} {mem : List xM} {n : Int} (r_n : R32 n) {deep : Int} (r_deep : R32 deep) (hI : INVm mem) {Q : List xM → Option Value → Prop} (kk : ∀ mem1 v, M148 mem1 → vL v → (∀ Q2 : List xM → Option Value → Prop, (∀ mem2, INVm mem2 → Q2 mem2 (some v)) → CT true m_Mod_rows (d + 92) [.ref 148, .int (ii n), .int (ii deep)] mem1 0 0 Q2) → Q mem1 (some v)) : CT true m_Hou_rows (d + 92) [.ref 0, .int (ii n), .int (ii deep)] mem 0 0 Q := by
  refine hI (fun mem => CT true m_Hou_rows (d + 92) [.ref 0, .int (ii n), .int (ii deep)] mem 0 0 Q) ?_
  intro hdn bl sp su lc fo rn rl rp pz pn fl td br dz ez rdn rlt rbr fz rs rm rd ro tm kp by_ tk ps pv pw sk wd dk dl dg rsk wr rf qI aI bI cI gI pI yI qF aF bF cF gF eF fF pF yF nF pr be wy lx qx ax bx cx ts i0 i6 i8 i9 i10 i13 i14 i18 i19 i20 i21 i22 i23 i24 i25 i27 i28 i33 i42 i43 i44 i45 i46 i47 i48 i51 i52 x1 x2 x3 x4 x5 x7 x11 x12 x15 x16 x17 x26 x29 x30 x31 x32 x34 x35 x36 x37 x38 x39 x40 x41 x49 x50 h1 h2 h3 h4 h5 h6 h7 h8 h9 h10 h11 h12
  obtain ⟨hS, hL, hX⟩ := id h1
  obtain ⟨hU, hdz⟩ := h2
  subst hdz
  obtain ⟨rfl, ⟨z0_, z1_⟩, hby⟩ := id h3
  obtain ⟨rfl, rfl, rfl, rfl⟩ := h5
  have hKR := hS.2.1
  have hKK := hL.kok hKR
  have hn20 := hKR.1
  have hu16 := hU.1
  refine E_X0 (args := [.ref 0, .int (ii n), .int (ii deep)]) CH_len MM_len rfl ?_
  rw [← WH_eq]
  exact t_Hou_rows r_n r_deep (fun hc wy nF => ⟨(C_H hdn bl sp su lc fo rn rl rp pz pn fl td br dz ez rdn rlt rbr fz rs rm rd ro tm kp by_ tk ps pv pw sk wd dk dl dg rsk wr rf qI aI bI cI gI pI yI qF aF bF cF gF eF fF pF yF nF pr be wy lx qx ax bx cx), WH_eq, CH_len, rfl, kk _ _ (M148_of CH_len MM_len ⟨_, rfl⟩) ⟨_, rfl⟩ (fun Q2 hq => E_M (args := [.ref 0, .int (ii n), .int (ii deep)]) CH_len MM_len rfl (t_Mod_rows r_n r_deep (fun _ _ => ⟨MM_len, rfl, hq _ (INVmk h1 ⟨hU, rfl⟩ h3 h4 ⟨rfl, rfl, rfl, rfl⟩ h6 h7 h8 h9 h10 h11 h12)⟩) (fun hn => absurd hc hn)))⟩) (fun hc => ⟨(C_H hdn bl sp su lc fo rn rl rp pz pn fl td br dz ez rdn rlt rbr fz rs rm rd ro tm kp by_ tk ps pv pw sk wd dk dl dg rsk wr rf qI aI bI cI gI pI yI qF aF bF cF gF eF fF pF yF nF pr be wy lx qx ax bx cx), WH_eq, CH_len, rfl, kk _ _ (M148_of CH_len MM_len ⟨_, rfl⟩) ⟨_, rfl⟩ (fun Q2 hq => E_M (args := [.ref 0, .int (ii n), .int (ii deep)]) CH_len MM_len rfl (t_Mod_rows r_n r_deep (fun hn => absurd hn hc) (fun _ => ⟨MM_len, rfl, hq _ (INVmk h1 ⟨hU, rfl⟩ h3 h4 ⟨rfl, rfl, rfl, rfl⟩ h6 h7 h8 h9 h10 h11 h12)⟩)))⟩)
theorem st_likely {d : Nat} {mem : List xM} {n : Int} (r_n : R32 n) (hI : INVm mem) {Q : List xM → Option Value → Prop} (kk : ∀ mem1 v, M148 mem1 → vL v → (∀ Q2 : List xM → Option Value → Prop, (∀ mem2, INVm mem2 → Q2 mem2 (some v)) → CT true m_Mod_likely (d + 92) [.ref 148, .int (ii n)] mem1 0 0 Q2) → Q mem1 (some v)) : CT true m_Hou_likely (d + 92) [.ref 0, .int (ii n)] mem 0 0 Q := by
  refine hI (fun mem => CT true m_Hou_likely (d + 92) [.ref 0, .int (ii n)] mem 0 0 Q) ?_
  intro hdn bl sp su lc fo rn rl rp pz pn fl td br dz ez rdn rlt rbr fz rs rm rd ro tm kp by_ tk ps pv pw sk wd dk dl dg rsk wr rf qI aI bI cI gI pI yI qF aF bF cF gF eF fF pF yF nF pr be wy lx qx ax bx cx ts i0 i6 i8 i9 i10 i13 i14 i18 i19 i20 i21 i22 i23 i24 i25 i27 i28 i33 i42 i43 i44 i45 i46 i47 i48 i51 i52 x1 x2 x3 x4 x5 x7 x11 x12 x15 x16 x17 x26 x29 x30 x31 x32 x34 x35 x36 x37 x38 x39 x40 x41 x49 x50 h1 h2 h3 h4 h5 h6 h7 h8 h9 h10 h11 h12
  obtain ⟨hS, hL, hX⟩ := id h1
  obtain ⟨hU, hdz⟩ := h2
  subst hdz
  obtain ⟨rfl, ⟨z0_, z1_⟩, hby⟩ := id h3
  obtain ⟨rfl, rfl, rfl, rfl⟩ := h5
  have hKR := hS.2.1
  have hKK := hL.kok hKR
  have hn20 := hKR.1
  have hu16 := hU.1
  refine E_X0 (args := [.ref 0, .int (ii n)]) CH_len MM_len rfl ?_
  rw [← WH_eq]
  exact t_Hou_likely r_n (fun hc => ⟨(C_H hdn bl sp su lc fo rn rl rp pz pn fl td br dz ez rdn rlt rbr fz rs rm rd ro tm kp by_ tk ps pv pw sk wd dk dl dg rsk wr rf qI aI bI cI gI pI yI qF aF bF cF gF eF fF pF yF nF pr be wy lx qx ax bx cx), WH_eq, CH_len, rfl, kk _ _ (M148_of CH_len MM_len ⟨_, rfl⟩) ⟨_, rfl⟩ (fun Q2 hq => E_M (args := [.ref 0, .int (ii n)]) CH_len MM_len rfl (t_Mod_likely r_n (fun _ => ⟨MM_len, rfl, hq _ (INVmk h1 ⟨hU, rfl⟩ h3 h4 ⟨rfl, rfl, rfl, rfl⟩ h6 h7 h8 h9 h10 h11 h12)⟩) (fun hn => absurd hn hc)))⟩) (fun hc nF => ⟨(C_H hdn bl sp su lc fo rn rl rp pz pn fl td br dz ez rdn rlt rbr fz rs rm rd ro tm kp by_ tk ps pv pw sk wd dk dl dg rsk wr rf qI aI bI cI gI pI yI qF aF bF cF gF eF fF pF yF nF pr be wy lx qx ax bx cx), WH_eq, CH_len, rfl, kk _ _ (M148_of CH_len MM_len ⟨_, rfl⟩) ⟨_, rfl⟩ (fun Q2 hq => E_M (args := [.ref 0, .int (ii n)]) CH_len MM_len rfl (t_Mod_likely r_n (fun hn => absurd hc hn) (fun _ _ => ⟨MM_len, rfl, hq _ (INVmk h1 ⟨hU, rfl⟩ h3 h4 ⟨rfl, rfl, rfl, rfl⟩ h6 h7 h8 h9 h10 h11 h12)⟩)))⟩)
theorem st_rank {d : Nat} {mem : List xM} (hI : INVm mem) {Q : List xM → Option Value → Prop} (kk : ∀ mem1 v, M148 mem1 → vL v → (∀ Q2 : List xM → Option Value → Prop, (∀ mem2, INVm mem2 → Q2 mem2 (some v)) → CT true m_Mod_rank (d + 92) [.ref 148] mem1 0 0 Q2) → Q mem1 (some v)) : CT true m_Hou_rank (d + 92) [.ref 0] mem 0 0 Q := by
  refine hI (fun mem => CT true m_Hou_rank (d + 92) [.ref 0] mem 0 0 Q) ?_
  intro hdn bl sp su lc fo rn rl rp pz pn fl td br dz ez rdn rlt rbr fz rs rm rd ro tm kp by_ tk ps pv pw sk wd dk dl dg rsk wr rf qI aI bI cI gI pI yI qF aF bF cF gF eF fF pF yF nF pr be wy lx qx ax bx cx ts i0 i6 i8 i9 i10 i13 i14 i18 i19 i20 i21 i22 i23 i24 i25 i27 i28 i33 i42 i43 i44 i45 i46 i47 i48 i51 i52 x1 x2 x3 x4 x5 x7 x11 x12 x15 x16 x17 x26 x29 x30 x31 x32 x34 x35 x36 x37 x38 x39 x40 x41 x49 x50 h1 h2 h3 h4 h5 h6 h7 h8 h9 h10 h11 h12
  obtain ⟨hS, hL, hX⟩ := id h1
  obtain ⟨hU, hdz⟩ := h2
  subst hdz
  obtain ⟨rfl, ⟨z0_, z1_⟩, hby⟩ := id h3
  obtain ⟨rfl, rfl, rfl, rfl⟩ := h5
  have hKR := hS.2.1
  have hKK := hL.kok hKR
  have hn20 := hKR.1
  have hu16 := hU.1
  have hdp := hKR.2.2.2.1
  refine E_X0 (args := [.ref 0]) CH_len MM_len rfl ?_
  rw [← WH_eq]
  exact t_Hou_rank hS hL (fun rl rp rm rd ro wy nF hR2 => ⟨(C_H hdn bl sp su lc fo rn rl rp pz pn fl td br dz ez rdn rlt rbr fz rs rm rd ro tm kp by_ tk ps pv pw sk wd dk dl dg rsk wr rf qI aI bI cI gI pI yI qF aF bF cF gF eF fF pF yF nF pr be wy lx qx ax bx cx), WH_eq, CH_len, rfl, kk _ _ (M148_of CH_len MM_len ⟨_, rfl⟩) ⟨_, rfl⟩ (fun Q2 hq => E_M (args := [.ref 0]) CH_len MM_len rfl (t_Mod_rank hn20.1 hn20.2 hKR.2.1 hdp.1 hdp.2 (fun _ _ _ => ⟨MM_len, rfl, hq _ (INVmk ⟨⟨hR2, hS.2⟩, hL, hX⟩ ⟨hU, rfl⟩ h3 h4 ⟨rfl, rfl, rfl, rfl⟩ h6 h7 h8 h9 h10 h11 h12)⟩)))⟩)
theorem st_nth {d : Nat} {mem : List xM} {n k j : Int} (r_n : R32 n) (r_k : R64 k) (r_j : R32 j) (hI : INVm mem) {Q : List xM → Option Value → Prop} (kk : ∀ mem1 v, M148 mem1 → vI v → (∀ Q2 : List xM → Option Value → Prop, (∀ mem2, INVm mem2 → Q2 mem2 (some v)) → CT true m_Mod_nth (d + 92) [.ref 148, .int (ii n), .long (ll k), .int (ii j)] mem1 0 0 Q2) → Q mem1 (some v)) : CT true m_Hou_nth (d + 92) [.ref 0, .int (ii n), .long (ll k), .int (ii j)] mem 0 0 Q := by
  refine hI (fun mem => CT true m_Hou_nth (d + 92) [.ref 0, .int (ii n), .long (ll k), .int (ii j)] mem 0 0 Q) ?_
  intro hdn bl sp su lc fo rn rl rp pz pn fl td br dz ez rdn rlt rbr fz rs rm rd ro tm kp by_ tk ps pv pw sk wd dk dl dg rsk wr rf qI aI bI cI gI pI yI qF aF bF cF gF eF fF pF yF nF pr be wy lx qx ax bx cx ts i0 i6 i8 i9 i10 i13 i14 i18 i19 i20 i21 i22 i23 i24 i25 i27 i28 i33 i42 i43 i44 i45 i46 i47 i48 i51 i52 x1 x2 x3 x4 x5 x7 x11 x12 x15 x16 x17 x26 x29 x30 x31 x32 x34 x35 x36 x37 x38 x39 x40 x41 x49 x50 h1 h2 h3 h4 h5 h6 h7 h8 h9 h10 h11 h12
  obtain ⟨hS, hL, hX⟩ := id h1
  obtain ⟨hU, hdz⟩ := h2
  subst hdz
  obtain ⟨rfl, ⟨z0_, z1_⟩, hby⟩ := id h3
  obtain ⟨rfl, rfl, rfl, rfl⟩ := h5
  have hKR := hS.2.1
  have hKK := hL.kok hKR
  have hn20 := hKR.1
  have hu16 := hU.1
  have hdp := hKR.2.2.2.1
  obtain ⟨vv, hv⟩ : ∃ vv, (if (1 ≤ n ∧ n ≤ 12) ∧ 0 ≤ k ∧ (0 ≤ j ∧ j < 2 * n) then nsR x2 n k j else -1) = vv := ⟨_, rfl⟩
  refine E_X0 (args := [.ref 0, .int (ii n), .long (ll k), .int (ii j)]) CH_len MM_len rfl ?_
  rw [← WH_eq]
  exact t_Hou_nth hS hL r_n r_k r_j (fun wy nF => by rw [hv]; exact ⟨(C_H hdn bl sp su lc fo rn rl rp pz pn fl td br dz ez rdn rlt rbr fz rs rm rd ro tm kp by_ tk ps pv pw sk wd dk dl dg rsk wr rf qI aI bI cI gI pI yI qF aF bF cF gF eF fF pF yF nF pr be wy lx qx ax bx cx), WH_eq, CH_len, rfl, kk _ _ (M148_of CH_len MM_len ⟨_, rfl⟩) ⟨_, rfl⟩ (fun Q2 hq => E_M (args := [.ref 0, .int (ii n), .long (ll k), .int (ii j)]) CH_len MM_len rfl (t_Mod_nth r_n r_k r_j hdp.1 hdp.2 (fun hn => by rw [show (-1 : Int) = vv by rw [← hv, if_neg hn]]; exact ⟨MM_len, rfl, hq _ (INVmk h1 ⟨hU, rfl⟩ h3 h4 ⟨rfl, rfl, rfl, rfl⟩ h6 h7 h8 h9 h10 h11 h12)⟩) (fun hn _ _ _ => by rw [show nsR x2 n k j = vv by rw [← hv, if_pos hn]]; exact ⟨MM_len, rfl, hq _ (INVmk h1 ⟨hU, rfl⟩ h3 h4 ⟨rfl, rfl, rfl, rfl⟩ h6 h7 h8 h9 h10 h11 h12)⟩)))⟩)
theorem st_hide {d : Nat} {mem : List xM} {people : Int} (r_people : R32 people) {w : Int} (r_w : R32 w) (hI : INVm mem) {Q : List xM → Option Value → Prop} (kk : ∀ mem1 v, M148 mem1 → vI v → (∀ Q2 : List xM → Option Value → Prop, (∀ mem2, INVm mem2 → Q2 mem2 (some v)) → CT true m_Mod_hide (d + 92) [.ref 148, .int (ii people), .int (ii w)] mem1 0 0 Q2) → Q mem1 (some v)) : CT true m_Hou_hide (d + 92) [.ref 0, .int (ii people), .int (ii w)] mem 0 0 Q := by
  refine hI (fun mem => CT true m_Hou_hide (d + 92) [.ref 0, .int (ii people), .int (ii w)] mem 0 0 Q) ?_
  intro hdn bl sp su lc fo rn rl rp pz pn fl td br dz ez rdn rlt rbr fz rs rm rd ro tm kp by_ tk ps pv pw sk wd dk dl dg rsk wr rf qI aI bI cI gI pI yI qF aF bF cF gF eF fF pF yF nF pr be wy lx qx ax bx cx ts i0 i6 i8 i9 i10 i13 i14 i18 i19 i20 i21 i22 i23 i24 i25 i27 i28 i33 i42 i43 i44 i45 i46 i47 i48 i51 i52 x1 x2 x3 x4 x5 x7 x11 x12 x15 x16 x17 x26 x29 x30 x31 x32 x34 x35 x36 x37 x38 x39 x40 x41 x49 x50 h1 h2 h3 h4 h5 h6 h7 h8 h9 h10 h11 h12
  obtain ⟨hS, hL, hX⟩ := id h1
  obtain ⟨hU, hdz⟩ := h2
  subst hdz
  obtain ⟨rfl, ⟨z0_, z1_⟩, hby⟩ := id h3
  obtain ⟨rfl, rfl, rfl, rfl⟩ := h5
  have hKR := hS.2.1
  have hKK := hL.kok hKR
  have hn20 := hKR.1
  have hu16 := hU.1
  obtain ⟨vv, hv⟩ : ∃ vv, hiR x2 people w x40 = vv := ⟨_, rfl⟩
  refine E_X0 (args := [.ref 0, .int (ii people), .int (ii w)]) CH_len MM_len rfl ?_
  rw [← WH_eq]
  exact t_Hou_hide hS hL h11.2 (y := x40) r_people r_w (fun rl rp td br rm rd ro sk wd pI yI pF yF pr be hp7 hR2 => by rw [hv]; exact ⟨(C_H hdn bl sp su lc fo rn rl rp pz pn fl td br dz ez rdn rlt rbr fz rs rm rd ro tm kp by_ tk ps pv pw sk wd dk dl dg rsk wr rf qI aI bI cI gI pI yI qF aF bF cF gF eF fF pF yF nF pr be wy lx qx ax bx cx), WH_eq, CH_len, rfl, kk _ _ (M148_of CH_len MM_len ⟨_, rfl⟩) ⟨_, rfl⟩ (fun Q2 hq => E_M (args := [.ref 0, .int (ii people), .int (ii w)]) CH_len MM_len rfl (t_Mod_hide hKK r_people r_w (fun hn _ _ => by rw [show (-1 : Int) = vv by rw [← hv]; exact (if_neg hn).symm]; exact ⟨MM_len, rfl, hq _ (INVmk ⟨⟨hR2, hS.2⟩, hL, hX⟩ ⟨hU, rfl⟩ h3 h4 ⟨rfl, rfl, rfl, rfl⟩ h6 h7 h8 h9 h10 ⟨h11.1, hp7⟩ h12)⟩) (fun hn _ _ _ _ _ _ _ _ _ => by rw [show (if hdF x2 people x40 0 = 1000000 then -1 else hdF x2 people x40 w) = vv by rw [← hv]; exact (if_pos hn).symm]; exact ⟨MM_len, rfl, hq _ (INVmk ⟨⟨hR2, hS.2⟩, hL, hX⟩ ⟨hU, rfl⟩ h3 h4 ⟨rfl, rfl, rfl, rfl⟩ h6 h7 h8 h9 h10 ⟨h11.1, hp7⟩ h12)⟩)))⟩)
