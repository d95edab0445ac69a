/-! what the law must know between a call of the class and the reference's -/
def M148 (mem : List xM) : Prop := ∃ fs, mem[148]? = some (.inr (12, fs))
theorem M148_of {C M : List xM} {ts : List TD} (hC : C.length = 148) (hM : M.length = 27) (h : ∃ fs, M[0]? = some (.inr (12, fs))) : M148 (HMw C M ts) := by
  obtain ⟨fs, h⟩ := h
  refine ⟨fs.map (r_v sgM), ?_⟩
  have e := HMw_M (C := C) (M := M) (ts := ts) (i := 0) hC hM (by decide)
  rw [Nat.add_zero, List.getElem?_map, h] at e
  exact e
def vI (v : Value) : Prop := ∃ x : Int32, v = .int x
def vL (v : Value) : Prop := ∃ x : Int64, v = .long x
set_option maxRecDepth 10000 in
theorem CH_len {hdn bl sp su lc fo rn rl rp pz pn fl td br dz ez rdn rlt rbr fz : Int} {rs rm rd ro tm kp by_ tk ps pv pw sk wd dk dl dg rsk wr rf : Int → Int} {qI aI bI cI gI pI yI : Nat → Int} {qF aF bF cF gF eF fF pF yF nF : Nat → Int → Int} {pr be wy : Int → Int → Int} {lx qx ax bx cx : Nat → Option Nat} : (C_H hdn bl sp su lc fo rn rl rp pz pn fl td br dz ez rdn rlt rbr fz rs rm rd ro tm kp by_ tk ps pv pw sk wd dk dl dg rsk wr rf qI aI bI cI gI pI yI qF aF bF cF gF eF fF pF yF nF pr be wy lx qx ax bx cx).length = 148 := rfl
theorem MM_len {i0 i6 i8 i9 i10 i13 i14 i18 i19 i20 i21 i22 i23 i24 i25 i27 i28 i33 i42 i43 i44 i45 i46 i47 i48 i51 i52 : Int} {x1 x2 x3 x4 x5 x7 x11 x12 x15 x16 x17 x26 x29 x30 x31 x32 x34 x35 x36 x37 x38 x39 x40 x41 x49 x50 : Int → Int} : (MM i0 i6 i8 i9 i10 i13 i14 i18 i19 i20 i21 i22 i23 i24 i25 i27 i28 i33 i42 i43 i44 i45 i46 i47 i48 i51 i52 x1 x2 x3 x4 x5 x7 x11 x12 x15 x16 x17 x26 x29 x30 x31 x32 x34 x35 x36 x37 x38 x39 x40 x41 x49 x50).length = 27 := rfl
theorem LB.same24 {K K' : Int → Int} {lx : Nat → Option Nat} {ts : List TD} (h : LB K lx ts) (e : ∀ j, 24 ≤ j → j ≠ 25 → K' j = K j) : LB K' lx ts := by
  obtain ⟨h1, h2, h3⟩ := h
  refine ⟨fun k k0 k1 => by rw [e _ (by omega) (by omega)]; exact h1 k k0 k1, fun k k0 k1 => by rw [e _ (by omega) (by omega)]; exact h2 k k0 k1, fun f f0 f1 => ?_⟩
  obtain ⟨j, t, a1, a2, a3⟩ := h3 f f0 (by rw [← e 24 (by omega) (by omega)]; exact f1)
  exact ⟨j, t, a1, a2, a3.same f0 (fun j hj => e j (by omega) (by omega))⟩
theorem SI.term {K : Int → Int} {lc fo rn rl rp what value : Int} {rs rm rd tm : Int → Int} (h : SI K lc fo rn rl rp rs rm rd tm) (hc : (what = 0 ∧ 0 ≤ value ∧ value ≤ 999) ∨ (what = 1 ∧ 1 ≤ value ∧ value ≤ 9) ∨ (what = 2 ∧ 0 ≤ value ∧ value ≤ 9)) : SI (up K (21 + what) value) lc fo rn rl rp rs rm rd (up tm what value) ∧ tm what = K (21 + what) := by
  obtain ⟨hR, ⟨k1, k2, k3, k4, k5, k6, k7⟩, t0, t1, t2, l1, l2⟩ := h
  have hre : RE K (up K (21 + what) value) := ⟨up_ne (by omega), fun q q0 q1 => up_ne (by omega)⟩
  refine ⟨⟨hR.re hre, ⟨by rw [up_ne (by omega)]; exact k1, fun j j0 j1 => by rw [up_ne (by omega)] at j1; rw [up_ne (by omega)]; exact k2 j j0 j1, ?_, ?_, ?_, by rw [up_ne (by omega)]; exact k6, by rw [up_ne (by omega), up_ne (by omega)]; exact k7⟩, ?_, ?_, ?_, by rw [up_ne (by omega)]; exact l1, by rw [up_ne (by omega)]; exact l2⟩, ?_⟩
  · rcases hc with ⟨rfl, c⟩ | ⟨rfl, c⟩ | ⟨rfl, c⟩
    · rw [show (21 : Int) + 0 = 21 by omega, up_eq]; exact c
    · rw [up_ne (by omega)]; exact k3
    · rw [up_ne (by omega)]; exact k3
  · rcases hc with ⟨rfl, c⟩ | ⟨rfl, c⟩ | ⟨rfl, c⟩
    · rw [up_ne (by omega)]; exact k4
    · rw [show (21 : Int) + 1 = 22 by omega, up_eq]; exact c
    · rw [up_ne (by omega)]; exact k4
  · rcases hc with ⟨rfl, c⟩ | ⟨rfl, c⟩ | ⟨rfl, c⟩
    · rw [up_ne (by omega)]; exact k5
    · rw [up_ne (by omega)]; exact k5
    · rw [show (21 : Int) + 2 = 23 by omega, up_eq]; exact c
  · rcases hc with ⟨rfl, c⟩ | ⟨rfl, c⟩ | ⟨rfl, c⟩
    · rw [show (21 : Int) + 0 = 21 by omega, up_eq, up_eq]
    · rw [up_ne (by omega), up_ne (by omega)]; exact t0
    · rw [up_ne (by omega), up_ne (by omega)]; exact t0
  · rcases hc with ⟨rfl, c⟩ | ⟨rfl, c⟩ | ⟨rfl, c⟩
    · rw [up_ne (by omega), up_ne (by omega)]; exact t1
    · rw [show (21 : Int) + 1 = 22 by omega, up_eq, up_eq]
    · rw [up_ne (by omega), up_ne (by omega)]; exact t1
  · rcases hc with ⟨rfl, c⟩ | ⟨rfl, c⟩ | ⟨rfl, c⟩
    · rw [up_ne (by omega), up_ne (by omega)]; exact t2
    · rw [up_ne (by omega), up_ne (by omega)]; exact t2
    · rw [show (21 : Int) + 2 = 23 by omega, up_eq, up_eq]
  · rcases hc with ⟨rfl, c⟩ | ⟨rfl, c⟩ | ⟨rfl, c⟩
    · exact t0
    · exact t1
    · exact t2
theorem st_terms {d : Nat} {mem : List xM} {what : Int} (r_what : R32 what) {value : Int} (r_value : R32 value) (hI : INVm mem) {Q : List xM → Option Value → Prop} (kk : ∀ mem1 v, M148 mem1 → vI v → (∀ Q2 : List xM → Option Value → Prop, (∀ mem2, INVm mem2 → Q2 mem2 (some v)) → CT true m_Mod_terms (d + 92) [.ref 148, .int (ii what), .int (ii value)] mem1 0 0 Q2) → Q mem1 (some v)) : CT true m_Hou_terms (d + 92) [.ref 0, .int (ii what), .int (ii value)] mem 0 0 Q := by
  refine hI (fun mem => CT true m_Hou_terms (d + 92) [.ref 0, .int (ii what), .int (ii value)] mem 0 0 Q) ?_
  intro hdn bl sp su lc fo rn rl rp pz pn fl td br dz ez rdn rlt rbr fz rs rm rd ro tm kp by_ tk ps pv pw sk wd dk dl dg rsk wr rf qI aI bI cI gI pI yI qF aF bF cF gF eF fF pF yF nF pr be wy lx qx ax bx cx ts i0 i6 i8 i9 i10 i13 i14 i18 i19 i20 i21 i22 i23 i24 i25 i27 i28 i33 i42 i43 i44 i45 i46 i47 i48 i51 i52 x1 x2 x3 x4 x5 x7 x11 x12 x15 x16 x17 x26 x29 x30 x31 x32 x34 x35 x36 x37 x38 x39 x40 x41 x49 x50 h1 h2 h3 h4 h5 h6 h7 h8 h9 h10 h11 h12
  obtain ⟨hS, hL, hX⟩ := id h1
  obtain ⟨hU, hdz⟩ := h2
  subst hdz
  obtain ⟨rfl, ⟨z0_, z1_⟩, hby⟩ := id h3
  obtain ⟨rfl, rfl, rfl, rfl⟩ := h5
  have hKR := hS.2.1
  have hKK := hL.kok hKR
  have hn20 := hKR.1
  have hu16 := hU.1
  refine E_X0 (args := [.ref 0, .int (ii what), .int (ii value)]) CH_len MM_len rfl ?_
  rw [← WH_eq]
  exact t_Hou_terms r_what r_value (fun hc => ⟨(C_H hdn bl sp 0 lc fo rn rl rp pz pn fl td br 0 ez rdn rlt rbr fz rs rm rd ro (up tm what value) kp by_ tk ps pv pw sk wd dk dl dg rsk wr rf qI aI bI cI gI pI yI qF aF bF cF gF eF fF pF yF nF pr be wy lx qx ax bx cx), WH_eq, CH_len, rfl, kk _ _ (M148_of CH_len MM_len ⟨_, rfl⟩) ⟨_, rfl⟩ (fun Q2 hq => E_M (args := [.ref 0, .int (ii what), .int (ii value)]) CH_len MM_len rfl (t_Mod_terms r_what r_value (fun _ => by rw [← (hS.term hc).2]; exact ⟨MM_len, rfl, hq _ (INVmk ⟨(hS.term hc).1, hL.same24 (fun j hj _ => up_ne (by omega)), hX⟩ ⟨hU.none, rfl⟩ h3 h4 ⟨rfl, rfl, rfl, rfl⟩ h6 h7 h8 h9 h10 h11 h12)⟩) (fun hn => absurd hc hn)))⟩) (fun hc => ⟨(C_H hdn bl sp (-1) lc fo rn rl rp pz pn fl td br dz ez rdn rlt rbr fz rs rm rd ro tm kp by_ tk ps pv pw sk wd dk dl dg rsk wr (up rf (rix (-1)) (rf (rix (-1)) + 1)) qI aI bI cI gI pI yI qF aF bF cF gF eF fF pF yF nF pr be wy lx qx ax bx cx), WH_eq, CH_len, rfl, kk _ _ (M148_of CH_len MM_len ⟨_, rfl⟩) ⟨_, rfl⟩ (fun Q2 hq => E_M (args := [.ref 0, .int (ii what), .int (ii value)]) CH_len MM_len rfl (t_Mod_terms r_what r_value (fun hn => absurd hn hc) (fun _ => ⟨MM_len, rfl, hq _ (INVmk h1 ⟨hU, rfl⟩ h3 h4 ⟨rfl, rfl, rfl, rfl⟩ (h6.upR (by decide)) h7 h8 h9 h10 h11 h12)⟩)))⟩)
theorem st_feed {d : Nat} {mem : List xM} {a : Int} (r_a : R32 a) {b : Int} (r_b : R32 b) {c : Int} (r_c : R32 c) {e : Int} (r_e : R32 e) {f : Int} (r_f : R32 f) (hI : INVm mem) {Q : List xM → Option Value → Prop} (kk : ∀ mem1 v, M148 mem1 → vI v → (∀ Q2 : List xM → Option Value → Prop, (∀ mem2, INVm mem2 → Q2 mem2 (some v)) → CT true m_Mod_feed (d + 92) [.ref 148, .int (ii a), .int (ii b), .int (ii c), .int (ii e), .int (ii f)] mem1 0 0 Q2) → Q mem1 (some v)) : CT true m_Hou_feed (d + 92) [.ref 0, .int (ii a), .int (ii b), .int (ii c), .int (ii e), .int (ii f)] mem 0 0 Q := by
  refine hI (fun mem => CT true m_Hou_feed (d + 92) [.ref 0, .int (ii a), .int (ii b), .int (ii c), .int (ii e), .int (ii f)] mem 0 0 Q) ?_
  intro hdn bl sp su lc fo rn rl rp pz pn fl td br dz ez rdn rlt rbr fz rs rm rd ro tm kp by_ tk ps pv pw sk wd dk dl dg rsk wr rf qI aI bI cI gI pI yI qF aF bF cF gF eF fF pF yF nF pr be wy lx qx ax bx cx ts i0 i6 i8 i9 i10 i13 i14 i18 i19 i20 i21 i22 i23 i24 i25 i27 i28 i33 i42 i43 i44 i45 i46 i47 i48 i51 i52 x1 x2 x3 x4 x5 x7 x11 x12 x15 x16 x17 x26 x29 x30 x31 x32 x34 x35 x36 x37 x38 x39 x40 x41 x49 x50 h1 h2 h3 h4 h5 h6 h7 h8 h9 h10 h11 h12
  obtain ⟨hS, hL, hX⟩ := id h1
  obtain ⟨hU, hdz⟩ := h2
  subst hdz
  obtain ⟨rfl, ⟨z0_, z1_⟩, hby⟩ := id h3
  obtain ⟨rfl, rfl, rfl, rfl⟩ := h5
  have hKR := hS.2.1
  have hKK := hL.kok hKR
  have hn20 := hKR.1
  have hu16 := hU.1
  refine E_X0 (args := [.ref 0, .int (ii a), .int (ii b), .int (ii c), .int (ii e), .int (ii f)]) CH_len MM_len rfl ?_
  rw [← WH_eq]
  exact t_Hou_feed r_a r_b r_c r_e r_f z0_ z1_ (fun hc => ⟨(C_H hdn bl sp su lc fo rn rl rp pz pn fl td br dz ez rdn rlt rbr fz rs rm rd ro tm kp by_ tk ps pv pw sk wd dk dl dg rsk wr rf qI aI bI cI gI pI yI qF aF bF cF gF eF fF pF yF nF pr be wy lx qx ax bx cx), WH_eq, CH_len, rfl, kk _ _ (M148_of CH_len MM_len ⟨_, rfl⟩) ⟨_, rfl⟩ (fun Q2 hq => E_M (args := [.ref 0, .int (ii a), .int (ii b), .int (ii c), .int (ii e), .int (ii f)]) CH_len MM_len rfl (t_Mod_feed z0_ z1_ (fun _ => ⟨MM_len, rfl, hq _ (INVmk h1 ⟨hU, rfl⟩ h3 h4 ⟨rfl, rfl, rfl, rfl⟩ h6 h7 h8 h9 h10 h11 h12)⟩) (fun hn => absurd hc (by omega))))⟩) (fun hc => ⟨(C_H hdn bl sp su lc fo rn rl rp (pz + 4 + 4 + 4 + 4 + 4) pn fl td br dz ez rdn rlt rbr fz rs rm rd ro tm kp (adB f (pz + 4 + 4 + 4 + 4) 4 (adB e (pz + 4 + 4 + 4) 4 (adB c (pz + 4 + 4) 4 (adB b (pz + 4) 4 (adB a pz 4 by_))))) tk ps pv pw sk wd dk dl dg rsk wr rf qI aI bI cI gI pI yI qF aF bF cF gF eF fF pF yF nF pr be wy lx qx ax bx cx), WH_eq, CH_len, rfl, kk _ _ (M148_of CH_len MM_len ⟨_, rfl⟩) ⟨_, rfl⟩ (fun Q2 hq => E_M (args := [.ref 0, .int (ii a), .int (ii b), .int (ii c), .int (ii e), .int (ii f)]) CH_len MM_len rfl (t_Mod_feed z0_ z1_ (fun hn => absurd hn (by omega)) (fun _ => by rw [show pz + 20 = pz + 4 + 4 + 4 + 4 + 4 by omega]; exact ⟨MM_len, rfl, hq _ (INVmk h1 ⟨hU, rfl⟩ ⟨rfl, ⟨by omega, by omega⟩, fun j j0 j1 => feed_eq z0_ hby j j0 j1⟩ h4 ⟨rfl, rfl, rfl, rfl⟩ h6 h7 h8 h9 h10 h11 h12)⟩)))⟩)
theorem st_end {d : Nat} {mem : List xM} {n : Int} (r_n : R32 n) (hI : INVm mem) {Q : List xM → Option Value → Prop} (kk : ∀ mem1 v, M148 mem1 → vI v → (∀ Q2 : List xM → Option Value → Prop, (∀ mem2, INVm mem2 → Q2 mem2 (some v)) → CT true m_Mod_end (d + 92) [.ref 148, .int (ii n)] mem1 0 0 Q2) → Q mem1 (some v)) : CT true m_Hou_end (d + 92) [.ref 0, .int (ii n)] mem 0 0 Q := by
  refine hI (fun mem => CT true m_Hou_end (d + 92) [.ref 0, .int (ii n)] mem 0 0 Q) ?_
  intro hdn bl sp su lc fo rn rl rp pz pn fl td br dz ez rdn rlt rbr fz rs rm rd ro tm kp by_ tk ps pv pw sk wd dk dl dg rsk wr rf qI aI bI cI gI pI yI qF aF bF cF gF eF fF pF yF nF pr be wy lx qx ax bx cx ts i0 i6 i8 i9 i10 i13 i14 i18 i19 i20 i21 i22 i23 i24 i25 i27 i28 i33 i42 i43 i44 i45 i46 i47 i48 i51 i52 x1 x2 x3 x4 x5 x7 x11 x12 x15 x16 x17 x26 x29 x30 x31 x32 x34 x35 x36 x37 x38 x39 x40 x41 x49 x50 h1 h2 h3 h4 h5 h6 h7 h8 h9 h10 h11 h12
  obtain ⟨hS, hL, hX⟩ := id h1
  obtain ⟨hU, hdz⟩ := h2
  subst hdz
  obtain ⟨rfl, ⟨z0_, z1_⟩, hby⟩ := id h3
  obtain ⟨rfl, rfl, rfl, rfl⟩ := h5
  have hKR := hS.2.1
  have hKK := hL.kok hKR
  have hn20 := hKR.1
  have hu16 := hU.1
  refine E_X0 (args := [.ref 0, .int (ii n)]) CH_len MM_len rfl ?_
  rw [← WH_eq]
  exact t_Hou_end r_n (by omega) (fun hc => ⟨(C_H hdn bl sp su lc fo rn rl rp n pn fl td br dz ez rdn rlt rbr fz rs rm rd ro tm kp by_ tk ps pv pw sk wd dk dl dg rsk wr rf qI aI bI cI gI pI yI qF aF bF cF gF eF fF pF yF nF pr be wy lx qx ax bx cx), WH_eq, CH_len, rfl, kk _ _ (M148_of CH_len MM_len ⟨_, rfl⟩) ⟨_, rfl⟩ (fun Q2 hq => E_M (args := [.ref 0, .int (ii n)]) CH_len MM_len rfl (t_Mod_end r_n (by omega) (fun _ => ⟨MM_len, rfl, hq _ (INVmk h1 ⟨hU, rfl⟩ ⟨rfl, ⟨hc.1, by omega⟩, hby⟩ h4 ⟨rfl, rfl, rfl, rfl⟩ h6 h7 h8 h9 h10 h11 h12)⟩) (fun hn => absurd hc hn)))⟩) (fun hc => ⟨(C_H hdn bl sp su lc fo rn rl rp pz pn fl td br dz ez rdn rlt rbr fz rs rm rd ro tm kp by_ tk ps pv pw sk wd dk dl dg rsk wr rf qI aI bI cI gI pI yI qF aF bF cF gF eF fF pF yF nF pr be wy lx qx ax bx cx), WH_eq, CH_len, rfl, kk _ _ (M148_of CH_len MM_len ⟨_, rfl⟩) ⟨_, rfl⟩ (fun Q2 hq => E_M (args := [.ref 0, .int (ii n)]) CH_len MM_len rfl (t_Mod_end r_n (by omega) (fun hn => absurd hn hc) (fun _ => ⟨MM_len, rfl, hq _ (INVmk h1 ⟨hU, rfl⟩ h3 h4 ⟨rfl, rfl, rfl, rfl⟩ h6 h7 h8 h9 h10 h11 h12)⟩)))⟩)
theorem st_blots {d : Nat} {mem : List xM} (hI : INVm mem) {Q : List xM → Option Value → Prop} (kk : ∀ mem1 v, M148 mem1 → vI v → (∀ Q2 : List xM → Option Value → Prop, (∀ mem2, INVm mem2 → Q2 mem2 (some v)) → CT true m_Mod_blots (d + 92) [.ref 148] mem1 0 0 Q2) → Q mem1 (some v)) : CT true m_Hou_blots (d + 92) [.ref 0] mem 0 0 Q := by
  refine hI (fun mem => CT true m_Hou_blots (d + 92) [.ref 0] mem 0 0 Q) ?_
  intro hdn bl sp su lc fo rn rl rp pz pn fl td br dz ez rdn rlt rbr fz rs rm rd ro tm kp by_ tk ps pv pw sk wd dk dl dg rsk wr rf qI aI bI cI gI pI yI qF aF bF cF gF eF fF pF yF nF pr be wy lx qx ax bx cx ts i0 i6 i8 i9 i10 i13 i14 i18 i19 i20 i21 i22 i23 i24 i25 i27 i28 i33 i42 i43 i44 i45 i46 i47 i48 i51 i52 x1 x2 x3 x4 x5 x7 x11 x12 x15 x16 x17 x26 x29 x30 x31 x32 x34 x35 x36 x37 x38 x39 x40 x41 x49 x50 h1 h2 h3 h4 h5 h6 h7 h8 h9 h10 h11 h12
  obtain ⟨hS, hL, hX⟩ := id h1
  obtain ⟨hU, hdz⟩ := h2
  subst hdz
  obtain ⟨rfl, ⟨z0_, z1_⟩, hby⟩ := id h3
  obtain ⟨rfl, rfl, rfl, rfl⟩ := h5
  have hKR := hS.2.1
  have hKK := hL.kok hKR
  have hn20 := hKR.1
  have hu16 := hU.1
  refine E_X0 (args := [.ref 0]) CH_len MM_len rfl ?_
  rw [← WH_eq]
  exact t_Hou_blots (⟨(C_H hdn bl sp su lc fo rn rl rp pz pn fl td br dz ez rdn rlt rbr fz rs rm rd ro tm kp by_ tk ps pv pw sk wd dk dl dg rsk wr rf qI aI bI cI gI pI yI qF aF bF cF gF eF fF pF yF nF pr be wy lx qx ax bx cx), WH_eq, CH_len, rfl, kk _ _ (M148_of CH_len MM_len ⟨_, rfl⟩) ⟨_, rfl⟩ (fun Q2 hq => E_M (args := [.ref 0]) CH_len MM_len rfl (t_Mod_blots (⟨MM_len, rfl, hq _ (INVmk h1 ⟨hU, rfl⟩ h3 h4 ⟨rfl, rfl, rfl, rfl⟩ h6 h7 h8 h9 h10 h11 h12)⟩)))⟩)
theorem st_fault {d : Nat} {mem : List xM} (hI : INVm mem) {Q : List xM → Option Value → Prop} (kk : ∀ mem1 v, M148 mem1 → vI v → (∀ Q2 : List xM → Option Value → Prop, (∀ mem2, INVm mem2 → Q2 mem2 (some v)) → CT true m_Mod_fault (d + 92) [.ref 148] mem1 0 0 Q2) → Q mem1 (some v)) : CT true m_Hou_fault (d + 92) [.ref 0] mem 0 0 Q := by
  refine hI (fun mem => CT true m_Hou_fault (d + 92) [.ref 0] mem 0 0 Q) ?_
  intro hdn bl sp su lc fo rn rl rp pz pn fl td br dz ez rdn rlt rbr fz rs rm rd ro tm kp by_ tk ps pv pw sk wd dk dl dg rsk wr rf qI aI bI cI gI pI yI qF aF bF cF gF eF fF pF yF nF pr be wy lx qx ax bx cx ts i0 i6 i8 i9 i10 i13 i14 i18 i19 i20 i21 i22 i23 i24 i25 i27 i28 i33 i42 i43 i44 i45 i46 i47 i48 i51 i52 x1 x2 x3 x4 x5 x7 x11 x12 x15 x16 x17 x26 x29 x30 x31 x32 x34 x35 x36 x37 x38 x39 x40 x41 x49 x50 h1 h2 h3 h4 h5 h6 h7 h8 h9 h10 h11 h12
  obtain ⟨hS, hL, hX⟩ := id h1
  obtain ⟨hU, hdz⟩ := h2
  subst hdz
  obtain ⟨rfl, ⟨z0_, z1_⟩, hby⟩ := id h3
  obtain ⟨rfl, rfl, rfl, rfl⟩ := h5
  have hKR := hS.2.1
  have hKK := hL.kok hKR
  have hn20 := hKR.1
  have hu16 := hU.1
  refine E_X0 (args := [.ref 0]) CH_len MM_len rfl ?_
  rw [← WH_eq]
  exact t_Hou_fault (⟨(C_H hdn bl sp su lc fo rn rl rp pz pn fl td br dz ez rdn rlt rbr fz rs rm rd ro tm kp by_ tk ps pv pw sk wd dk dl dg rsk wr rf qI aI bI cI gI pI yI qF aF bF cF gF eF fF pF yF nF pr be wy lx qx ax bx cx), WH_eq, CH_len, rfl, kk _ _ (M148_of CH_len MM_len ⟨_, rfl⟩) ⟨_, rfl⟩ (fun Q2 hq => E_M (args := [.ref 0]) CH_len MM_len rfl (t_Mod_fault (⟨MM_len, rfl, hq _ (INVmk h1 ⟨hU, rfl⟩ h3 h4 ⟨rfl, rfl, rfl, rfl⟩ h6 h7 h8 h9 h10 h11 h12)⟩)))⟩)
theorem st_stopped {d : Nat} {mem : List xM} (hI : INVm mem) {Q : List xM → Option Value → Prop} (kk : ∀ mem1 v, M148 mem1 → vI v → (∀ Q2 : List xM → Option Value → Prop, (∀ mem2, INVm mem2 → Q2 mem2 (some v)) → CT true m_Mod_stopped (d + 92) [.ref 148] mem1 0 0 Q2) → Q mem1 (some v)) : CT true m_Hou_stopped (d + 92) [.ref 0] mem 0 0 Q := by
  refine hI (fun mem => CT true m_Hou_stopped (d + 92) [.ref 0] mem 0 0 Q) ?_
  intro hdn bl sp su lc fo rn rl rp pz pn fl td br dz ez rdn rlt rbr fz rs rm rd ro tm kp by_ tk ps pv pw sk wd dk dl dg rsk wr rf qI aI bI cI gI pI yI qF aF bF cF gF eF fF pF yF nF pr be wy lx qx ax bx cx ts i0 i6 i8 i9 i10 i13 i14 i18 i19 i20 i21 i22 i23 i24 i25 i27 i28 i33 i42 i43 i44 i45 i46 i47 i48 i51 i52 x1 x2 x3 x4 x5 x7 x11 x12 x15 x16 x17 x26 x29 x30 x31 x32 x34 x35 x36 x37 x38 x39 x40 x41 x49 x50 h1 h2 h3 h4 h5 h6 h7 h8 h9 h10 h11 h12
  obtain ⟨hS, hL, hX⟩ := id h1
  obtain ⟨hU, hdz⟩ := h2
  subst hdz
  obtain ⟨rfl, ⟨z0_, z1_⟩, hby⟩ := id h3
  obtain ⟨rfl, rfl, rfl, rfl⟩ := h5
  have hKR := hS.2.1
  have hKK := hL.kok hKR
  have hn20 := hKR.1
  have hu16 := hU.1
  refine E_X0 (args := [.ref 0]) CH_len MM_len rfl ?_
  rw [← WH_eq]
  exact t_Hou_stopped (⟨(C_H hdn bl sp su lc fo rn rl rp pz pn fl td br dz ez rdn rlt rbr fz rs rm rd ro tm kp by_ tk ps pv pw sk wd dk dl dg rsk wr rf qI aI bI cI gI pI yI qF aF bF cF gF eF fF pF yF nF pr be wy lx qx ax bx cx), WH_eq, CH_len, rfl, kk _ _ (M148_of CH_len MM_len ⟨_, rfl⟩) ⟨_, rfl⟩ (fun Q2 hq => E_M (args := [.ref 0]) CH_len MM_len rfl (t_Mod_stopped (⟨MM_len, rfl, hq _ (INVmk h1 ⟨hU, rfl⟩ h3 h4 ⟨rfl, rfl, rfl, rfl⟩ h6 h7 h8 h9 h10 h11 h12)⟩)))⟩)
theorem st_status {d : Nat} {mem : List xM} (hI : INVm mem) {Q : List xM → Option Value → Prop} (kk : ∀ mem1 v, M148 mem1 → vI v → (∀ Q2 : List xM → Option Value → Prop, (∀ mem2, INVm mem2 → Q2 mem2 (some v)) → CT true m_Mod_status (d + 92) [.ref 148] mem1 0 0 Q2) → Q mem1 (some v)) : CT true m_Hou_status (d + 92) [.ref 0] mem 0 0 Q := by
  refine hI (fun mem => CT true m_Hou_status (d + 92) [.ref 0] mem 0 0 Q) ?_
  intro hdn bl sp su lc fo rn rl rp pz pn fl td br dz ez rdn rlt rbr fz rs rm rd ro tm kp by_ tk ps pv pw sk wd dk dl dg rsk wr rf qI aI bI cI gI pI yI qF aF bF cF gF eF fF pF yF nF pr be wy lx qx ax bx cx ts i0 i6 i8 i9 i10 i13 i14 i18 i19 i20 i21 i22 i23 i24 i25 i27 i28 i33 i42 i43 i44 i45 i46 i47 i48 i51 i52 x1 x2 x3 x4 x5 x7 x11 x12 x15 x16 x17 x26 x29 x30 x31 x32 x34 x35 x36 x37 x38 x39 x40 x41 x49 x50 h1 h2 h3 h4 h5 h6 h7 h8 h9 h10 h11 h12
  obtain ⟨hS, hL, hX⟩ := id h1
  obtain ⟨hU, hdz⟩ := h2
  subst hdz
  obtain ⟨rfl, ⟨z0_, z1_⟩, hby⟩ := id h3
  obtain ⟨rfl, rfl, rfl, rfl⟩ := h5
  have hKR := hS.2.1
  have hKK := hL.kok hKR
  have hn20 := hKR.1
  have hu16 := hU.1
  refine E_X0 (args := [.ref 0]) CH_len MM_len rfl ?_
  rw [← WH_eq]
  exact t_Hou_status (⟨(C_H hdn bl sp su lc fo rn rl rp pz pn fl td br dz ez rdn rlt rbr fz rs rm rd ro tm kp by_ tk ps pv pw sk wd dk dl dg rsk wr rf qI aI bI cI gI pI yI qF aF bF cF gF eF fF pF yF nF pr be wy lx qx ax bx cx), WH_eq, CH_len, rfl, kk _ _ (M148_of CH_len MM_len ⟨_, rfl⟩) ⟨_, rfl⟩ (fun Q2 hq => E_M (args := [.ref 0]) CH_len MM_len rfl (t_Mod_status (⟨MM_len, rfl, hq _ (INVmk h1 ⟨hU, rfl⟩ h3 h4 ⟨rfl, rfl, rfl, rfl⟩ h6 h7 h8 h9 h10 h11 h12)⟩)))⟩)
theorem rwF_hi {t K : Int → Int} (hn : 0 ≤ K 0 ∧ K 0 ≤ 20) (j : Int) (hj : 22 ≤ j) {m : Nat} {k n b : Int} : (rwF t m k K n b).1 j = K j := by
  induction m generalizing K k n b with
  | zero => rfl
  | succ m ih =>
    by_cases c : K 0 = 20 ∨ ¬ (0 ≤ t k ∧ t k ≤ 11)
    · rw [rwF_no c]; exact ih hn
    · rw [rwF_yes c, ih (by rw [rwK_0]; omega)]
      unfold rwK
      rw [up_ne (by omega), up_ne (by omega)]
theorem st_row {d : Nat} {mem : List xM} (hI : INVm mem) {Q : List xM → Option Value → Prop} (kk : ∀ mem1 v, M148 mem1 → vI v → (∀ Q2 : List xM → Option Value → Prop, (∀ mem2, INVm mem2 → Q2 mem2 (some v)) → CT true m_Mod_row (d + 92) [.ref 148] mem1 0 0 Q2) → Q mem1 (some v)) : CT true m_Hou_row (d + 92) [.ref 0] mem 0 0 Q := by
  refine hI (fun mem => CT true m_Hou_row (d + 92) [.ref 0] mem 0 0 Q) ?_
  intro hdn bl sp su lc fo rn rl rp pz pn fl td br dz ez rdn rlt rbr fz rs rm rd ro tm kp by_ tk ps pv pw sk wd dk dl dg rsk wr rf qI aI bI cI gI pI yI qF aF bF cF gF eF fF pF yF nF pr be wy lx qx ax bx cx ts i0 i6 i8 i9 i10 i13 i14 i18 i19 i20 i21 i22 i23 i24 i25 i27 i28 i33 i42 i43 i44 i45 i46 i47 i48 i51 i52 x1 x2 x3 x4 x5 x7 x11 x12 x15 x16 x17 x26 x29 x30 x31 x32 x34 x35 x36 x37 x38 x39 x40 x41 x49 x50 h1 h2 h3 h4 h5 h6 h7 h8 h9 h10 h11 h12
  obtain ⟨hS, hL, hX⟩ := id h1
  obtain ⟨hU, hdz⟩ := h2
  subst hdz
  obtain ⟨rfl, ⟨z0_, z1_⟩, hby⟩ := id h3
  obtain ⟨rfl, rfl, rfl, rfl⟩ := h5
  have hKR := hS.2.1
  have hKK := hL.kok hKR
  have hn20 := hKR.1
  have hu16 := hU.1
  refine E_X0 (args := [.ref 0]) CH_len MM_len rfl ?_
  rw [← WH_eq]
  exact t_Hou_row hS hL hby z0_ z1_ (fun hc => ⟨(C_H hdn bl sp (-6) lc fo rn rl rp pz pn fl td br dz ez rdn rlt rbr fz rs rm rd ro tm kp by_ tk ps pv pw sk wd dk dl dg rsk wr (up rf (rix (-6)) (rf (rix (-6)) + 1)) qI aI bI cI gI pI yI qF aF bF cF gF eF fF pF yF nF pr be wy lx qx ax bx cx), WH_eq, CH_len, rfl, kk _ _ (M148_of CH_len MM_len ⟨_, rfl⟩) ⟨_, rfl⟩ (fun Q2 hq => E_M (args := [.ref 0]) CH_len MM_len rfl (t_Mod_row hKK (fun j j0 j1 => (hby j j0 j1).2) z0_ z1_ (fun _ => by subst hc; exact ⟨MM_len, rfl, hq _ (INVmk h1 ⟨hU, rfl⟩ h3 h4 ⟨rfl, rfl, rfl, rfl⟩ (h6.upR (by decide)) h7 h8 h9 h10 h11 h12)⟩) (fun hn => absurd hc hn)))⟩) (fun hc rn rl rp rs rm rd ro hS2 => ⟨(C_H hdn (rwF x11 pz.toNat 0 x2 0 0).2.2 sp 0 lc fo rn rl rp 0 pn fl td br 0 ez rdn rlt rbr fz rs rm rd ro tm kp by_ tk ps pv pw sk wd dk dl dg rsk wr rf qI aI bI cI gI pI yI qF aF bF cF gF eF fF pF yF nF pr be wy lx qx ax bx cx), WH_eq, CH_len, rfl, kk _ _ (M148_of CH_len MM_len ⟨_, rfl⟩) ⟨_, rfl⟩ (fun Q2 hq => E_M (args := [.ref 0]) CH_len MM_len rfl (t_Mod_row hKK (fun j j0 j1 => (hby j j0 j1).2) z0_ z1_ (fun hn => absurd hn hc) (fun _ hk2 => ⟨MM_len, rfl, hq _ (INVmk ⟨hS2, hL.sameB hKR.2.2.2.2.2.1.2 (fun j j0 j1 => rwF_hi hn20 j j0), hX⟩ ⟨hU.none, rfl⟩ ⟨rfl, ⟨by omega, by omega⟩, hby⟩ h4 ⟨rfl, rfl, rfl, rfl⟩ h6 h7 h8 h9 h10 h11 h12)⟩)))⟩)
theorem SI.force {K : Int → Int} {lc fo rn rl rp w : Int} {rs rm rd tm : Int → Int} (h : SI K lc fo rn rl rp rs rm rd tm) (w0 : -1 ≤ w) (w1 : w < K 24) : SI (up K 25 w) lc w rn rl rp rs rm rd tm := by
  obtain ⟨hR, hk, t0, t1, t2, l1, l2⟩ := h
  have hre : RE K (up K 25 w) := ⟨up_ne (by omega), fun q q0 q1 => up_ne (by have := hk.1.2; omega)⟩
  exact ⟨hR.re hre, hk.same (fun j hj => up_ne hj) (by rw [up_eq]; omega), by rw [up_ne (by decide)]; exact t0, by rw [up_ne (by decide)]; exact t1, by rw [up_ne (by decide)]; exact t2, by rw [up_ne (by decide)]; exact l1, by rw [up_eq]⟩
theorem st_force {d : Nat} {mem : List xM} {w : Int} (r_w : R32 w) (hI : INVm mem) {Q : List xM → Option Value → Prop} (kk : ∀ mem1 v, M148 mem1 → vI v → (∀ Q2 : List xM → Option Value → Prop, (∀ mem2, INVm mem2 → Q2 mem2 (some v)) → CT true m_Mod_force (d + 92) [.ref 148, .int (ii w)] mem1 0 0 Q2) → Q mem1 (some v)) : CT true m_Hou_force (d + 92) [.ref 0, .int (ii w)] mem 0 0 Q := by
  refine hI (fun mem => CT true m_Hou_force (d + 92) [.ref 0, .int (ii w)] mem 0 0 Q) ?_
  intro hdn bl sp su lc fo rn rl rp pz pn fl td br dz ez rdn rlt rbr fz rs rm rd ro tm kp by_ tk ps pv pw sk wd dk dl dg rsk wr rf qI aI bI cI gI pI yI qF aF bF cF gF eF fF pF yF nF pr be wy lx qx ax bx cx ts i0 i6 i8 i9 i10 i13 i14 i18 i19 i20 i21 i22 i23 i24 i25 i27 i28 i33 i42 i43 i44 i45 i46 i47 i48 i51 i52 x1 x2 x3 x4 x5 x7 x11 x12 x15 x16 x17 x26 x29 x30 x31 x32 x34 x35 x36 x37 x38 x39 x40 x41 x49 x50 h1 h2 h3 h4 h5 h6 h7 h8 h9 h10 h11 h12
  obtain ⟨hS, hL, hX⟩ := id h1
  obtain ⟨hU, hdz⟩ := h2
  subst hdz
  obtain ⟨rfl, ⟨z0_, z1_⟩, hby⟩ := id h3
  obtain ⟨rfl, rfl, rfl, rfl⟩ := h5
  have hKR := hS.2.1
  have hKK := hL.kok hKR
  have hn20 := hKR.1
  have hu16 := hU.1
  have h24 := hKR.2.2.2.2.2.1
  have hlc : lc = x2 24 := hS.2.2.2.2.2.1
  have hfo : fo = x2 25 := hS.2.2.2.2.2.2
  refine E_X0 (args := [.ref 0, .int (ii w)]) CH_len MM_len rfl ?_
  rw [← WH_eq]
  exact t_Hou_force r_w (by omega) (by omega) (fun hc => ⟨(C_H hdn bl sp 0 lc w rn rl rp pz pn fl td br dz ez rdn rlt rbr fz rs rm rd ro tm kp by_ tk ps pv pw sk wd dk dl dg rsk wr rf qI aI bI cI gI pI yI qF aF bF cF gF eF fF pF yF nF pr be wy lx qx ax bx cx), WH_eq, CH_len, rfl, kk _ _ (M148_of CH_len MM_len ⟨_, rfl⟩) ⟨_, rfl⟩ (fun Q2 hq => E_M (args := [.ref 0, .int (ii w)]) CH_len MM_len rfl (t_Mod_force r_w h24.1 h24.2 (fun _ => by rw [← hfo]; exact ⟨MM_len, rfl, hq _ (INVmk ⟨hS.force (by omega) (by omega), hL.same (fun j hj h25 => up_ne h25), hX⟩ ⟨hU.same (fun j j0 j1 => up_ne (by omega)), rfl⟩ h3 h4 ⟨rfl, rfl, rfl, rfl⟩ h6 h7 h8 h9 h10 h11 h12)⟩) (fun hn => absurd (by omega) hn)))⟩) (fun hc => ⟨(C_H hdn bl sp (-2) lc fo rn rl rp pz pn fl td br dz ez rdn rlt rbr fz rs rm rd ro tm kp by_ tk ps pv pw sk wd dk dl dg rsk wr (up rf (rix (-2)) (rf (rix (-2)) + 1)) qI aI bI cI gI pI yI qF aF bF cF gF eF fF pF yF nF pr be wy lx qx ax bx cx), WH_eq, CH_len, rfl, kk _ _ (M148_of CH_len MM_len ⟨_, rfl⟩) ⟨_, rfl⟩ (fun Q2 hq => E_M (args := [.ref 0, .int (ii w)]) CH_len MM_len rfl (t_Mod_force r_w h24.1 h24.2 (fun hn => absurd (by omega) hc) (fun _ => ⟨MM_len, rfl, hq _ (INVmk h1 ⟨hU, rfl⟩ h3 h4 ⟨rfl, rfl, rfl, rfl⟩ (h6.upR (by decide)) h7 h8 h9 h10 h11 h12)⟩)))⟩)
theorem st_asks {d : Nat} {mem : List xM} {s : Int} (r_s : R32 s) {p : Int} (r_p : R32 p) {what : Int} (r_what : R32 what) (hI : INVm mem) {Q : List xM → Option Value → Prop} (kk : ∀ mem1 v, M148 mem1 → vI v → (∀ Q2 : List xM → Option Value → Prop, (∀ mem2, INVm mem2 → Q2 mem2 (some v)) → CT true m_Mod_asks (d + 92) [.ref 148, .int (ii s), .int (ii p), .int (ii what)] mem1 0 0 Q2) → Q mem1 (some v)) : CT true m_Hou_asks (d + 92) [.ref 0, .int (ii s), .int (ii p), .int (ii what)] mem 0 0 Q := by
  refine hI (fun mem => CT true m_Hou_asks (d + 92) [.ref 0, .int (ii s), .int (ii p), .int (ii what)] mem 0 0 Q) ?_
  intro hdn bl sp su lc fo rn rl rp pz pn fl td br dz ez rdn rlt rbr fz rs rm rd ro tm kp by_ tk ps pv pw sk wd dk dl dg rsk wr rf qI aI bI cI gI pI yI qF aF bF cF gF eF fF pF yF nF pr be wy lx qx ax bx cx ts i0 i6 i8 i9 i10 i13 i14 i18 i19 i20 i21 i22 i23 i24 i25 i27 i28 i33 i42 i43 i44 i45 i46 i47 i48 i51 i52 x1 x2 x3 x4 x5 x7 x11 x12 x15 x16 x17 x26 x29 x30 x31 x32 x34 x35 x36 x37 x38 x39 x40 x41 x49 x50 h1 h2 h3 h4 h5 h6 h7 h8 h9 h10 h11 h12
  obtain ⟨hS, hL, hX⟩ := id h1
  obtain ⟨hU, hdz⟩ := h2
  subst hdz
  obtain ⟨rfl, ⟨z0_, z1_⟩, hby⟩ := id h3
  obtain ⟨rfl, rfl, rfl, rfl⟩ := h5
  have hKR := hS.2.1
  have hKK := hL.kok hKR
  have hn20 := hKR.1
  have hu16 := hU.1
  have hT0 : (0 ≤ s ∧ s ≤ 11) ∧ (0 ≤ p ∧ p ≤ x2 0) → TL x2 1 s p 1 = some (tl x2 1 s p 1) ∧ TL x2 2 s p 1 = some (tl x2 2 s p 1) ∧ TL x2 3 s p 1 = some (tl x2 3 s p 1) ∧ TL x2 4 s p 0 = some (tl x2 4 s p 0) := fun hc => ⟨hKK.has hc.1.1 hc.1.2 hc.2.1 (by omega), hKK.has hc.1.1 hc.1.2 hc.2.1 (by omega), hKK.has hc.1.1 hc.1.2 hc.2.1 (by omega), hKK.has hc.1.1 hc.1.2 hc.2.1 (by omega)⟩
  have hf25 := hKR.2.2.2.2.2.2
  have h24 := hKR.2.2.2.2.2.1
  refine E_X0 (args := [.ref 0, .int (ii s), .int (ii p), .int (ii what)]) CH_len MM_len rfl ?_
  rw [← WH_eq]
  exact t_Hou_asks hS hL r_s r_p r_what (fun td br sk wd => ⟨(C_H hdn bl sp su lc fo rn rl rp pz pn fl td br dz ez rdn rlt rbr fz rs rm rd ro tm kp by_ tk ps pv pw sk wd dk dl dg rsk wr rf qI aI bI cI gI pI yI qF aF bF cF gF eF fF pF yF nF pr be wy lx qx ax bx cx), WH_eq, CH_len, rfl, kk _ _ (M148_of CH_len MM_len ⟨_, rfl⟩) ⟨_, rfl⟩ (fun Q2 hq => E_M (args := [.ref 0, .int (ii s), .int (ii p), .int (ii what)]) CH_len MM_len rfl (t_Mod_asks hn20.1 hn20.2 hKR.2.1 hL.1 (by omega) (by omega) hL.2.1 r_s r_p r_what hT0 (fun _ _ _ _ _ _ _ => ⟨MM_len, rfl, hq _ (INVmk h1 ⟨hU, rfl⟩ h3 h4 ⟨rfl, rfl, rfl, rfl⟩ h6 h7 h8 h9 h10 h11 h12)⟩)))⟩)
