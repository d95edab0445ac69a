/-! THE LAW'S CASES -/
def LwE (N : Nat) (sc : Nat → Int32) (ex : Nat → Nat) : Prop := ex 6 = N ∧ ∀ k, k < N → Int32.ofNat (ex (7 + k)) = sc k
def sv (sc : Nat → Int32) (a : Int) : Int := (sc a.toNat).toInt
theorem sv_R {sc : Nat → Int32} {a : Int} : R32 (sv sc a) := by
  unfold sv
  exact ⟨by simpa using (sc a.toNat).le_toInt, by simpa using (sc a.toNat).toInt_lt⟩
theorem sv_ii {sc : Nat → Int32} {a : Int} : ii (sv sc a) = sc a.toNat := Int32.ofInt_toInt _
def LL (i : Int) : List (Option Value) := [some (.retAddr 3), some (.ref 0), some (.ref 148), some (.int (ii i))]
theorem INVm.m0 {mem : List xM} (hI : INVm mem) : ∃ fs, mem[0]? = some (.inr (11, fs)) := hI (fun mem => ∃ fs, mem[0]? = some (.inr (11, fs))) (by intros; exact ⟨_, rfl⟩)
theorem lg_self (v : Int64) : lg_cmp v v = 0 := by
  unfold lg_cmp
  simp
theorem ll_some (z : Int64) : ∃ k : Int, R64 k ∧ z = ll k := ⟨z.toInt, ⟨by simpa using z.le_toInt, by simpa using z.toInt_lt⟩, (Int64.ofInt_toInt z).symm⟩
theorem kl_Law_115 : Cond.constantLong "BracketHouseLaw" 115 4294967295 ∈ gw := gi8 (i := 158) (by decide +kernel) (by decide +kernel)
section LWC
variable {d pc : Nat} {st : List Value} {mem : List xM} {bc bs : Nat} {Q : List xM → Option Value → Prop} {N : Nat} {sc : Nat → Int32}
theorem q_less {E : (Nat → Nat) → Prop} {g : Bool} {y : xY} {L : List (Option Value)} {bc' bs' : Nat} (h1 : bc' ≤ bc) (h2 : bs' ≤ bs) (kk : SX E g y d pc L st mem bc' bs' Q) : SX E g y d pc L st mem bc bs Q := by
  intro l ad ex dA D A p e s m args below meth c H locs cells slots ls mc ms hE hI
  exact kk hE ⟨hI.1, hI.2.1, hI.2.2.1, hI.2.2.2.1, hI.2.2.2.2.1, Nat.le_trans (Nat.add_le_add_left h1 _) hI.2.2.2.2.2.1, Nat.le_trans (Nat.add_le_add_left h2 _) hI.2.2.2.2.2.2⟩
theorem q_get {a : Int} {L : List (Option Value)} (h0 : 0 ≤ a) (hk : a < N) (hN : N ≤ 3072) (hd : decode m_Law.2.1 pc = .ok (.iaload, 1)) (kk : SX (LwE N sc) true m_Law d (pc + 1) L (.int (ii (sv sc a)) :: st) mem bc bs Q) : SX (LwE N sc) true m_Law d pc L (.int (ii a) :: .retAddr 3 :: st) mem bc bs Q := by
  have hR : R32 a := ⟨by omega, by omega⟩
  refine q_siald (v := ii (sv sc a)) hd (fun ex hE => ?_) (fun ex hE => ?_) kk
  · rw [hE.1]
    exact ii_in h0 hk hR
  · rw [ii_nat hR, hE.2 _ (by omega), sv_ii]
theorem q_read {i k : Int} (h0 : 0 ≤ i) (k0 : 0 ≤ k) (hk : i + k < N) (hN : N ≤ 3072) (d1 : decode m_Law.2.1 pc = .ok (.aload_n 0, 1)) (d2 : decode m_Law.2.1 (pc + 1) = .ok (.iload_n 3, 1)) (d3 : decode m_Law.2.1 (pc + 2) = .ok (.iconst k, 1)) (d4 : decode m_Law.2.1 (pc + 3) = .ok (.iadd, 1)) (d5 : decode m_Law.2.1 (pc + 4) = .ok (.iaload, 1)) (kk : SX (LwE N sc) true m_Law d (pc + 5) (LL i) (.int (ii (sv sc (i + k))) :: st) mem bc bs Q) : SX (LwE N sc) true m_Law d pc (LL i) st mem bc bs Q := by
  refine q_aload_nX d1 rfl ?_
  refine q_iload_n d2 rfl ?_
  refine q_iconst (v := ii k) d3 rfl ?_
  refine q_iadd d4 ?_
  rw [ii_add]
  exact q_get (by omega) hk hN d5 kk
theorem lwc_0 {i : Int} (hI : INVm mem) (h0 : 0 ≤ i) (h1 : i + 6 ≤ N) (hN : N ≤ 3072) (hb1 : 8 ≤ bc) (hb2 : 941 ≤ bs) (kk : ∀ mem2, INVm mem2 → SX (LwE N sc) true m_Law (d + 93) 1103 (LL i) [] mem2 (bc - 8) (bs - 941) Q) : SX (LwE N sc) true m_Law (d + 93) 192 (LL i) [] mem bc bs Q := by
  obtain ⟨fs, hm⟩ := hI.m0
  refine q_aload_n d_Law_192 rfl ?_
  refine q_read (k := 1) h0 (by decide) (by omega) hN d_Law_193 d_Law_194 d_Law_195 d_Law_196 d_Law_197 ?_
  refine q_read (k := 2) h0 (by decide) (by omega) hN d_Law_198 d_Law_199 d_Law_200 d_Law_201 d_Law_202 ?_
  refine q_callV (y2 := m_Hou_terms) (i := 0) (ci := 11) (as := [.int (ii (sv sc (i + 1))), .int (ii (sv sc (i + 2)))]) (st := []) (mc2 := 0) (ms2 := 0) d_Law_203 c_Law_13 hm ⟨_, rfl, rfl⟩ rfl rfl (Nat.le_of_ble_eq_true rfl) (Nat.zero_le _) (Nat.zero_le _) ?_
  refine st_terms sv_R sv_R hI (fun mem1 v hm1 hv hc => ?_)
  obtain ⟨v, rfl⟩ := hv
  obtain ⟨fs1, hm1⟩ := hm1
  refine q_aload_n d_Law_206 rfl ?_
  refine q_read (k := 1) h0 (by decide) (by omega) hN d_Law_207 d_Law_208 d_Law_209 d_Law_210 d_Law_211 ?_
  refine q_read (k := 2) h0 (by decide) (by omega) hN d_Law_212 d_Law_213 d_Law_214 d_Law_215 d_Law_216 ?_
  refine q_callV (y2 := m_Mod_terms) (i := 148) (ci := 12) (as := [.int (ii (sv sc (i + 1))), .int (ii (sv sc (i + 2)))]) (st := [.int v]) (mc2 := 0) (ms2 := 0) d_Law_217 c_Law_17 hm1 ⟨_, rfl, rfl⟩ rfl rfl (Nat.le_of_ble_eq_true rfl) (Nat.zero_le _) (Nat.zero_le _) (hc _ (fun mem2 hI2 => ?_))
  exact q_icmp_eq (t := 1103) d_Law_220 rfl (fun _ => q_less (by omega) (by omega) (kk mem2 hI2)) (fun h => absurd rfl h)
theorem lwc_1 {i : Int} (hI : INVm mem) (h0 : 0 ≤ i) (h1 : i + 6 ≤ N) (hN : N ≤ 3072) (hb1 : 8 ≤ bc) (hb2 : 941 ≤ bs) (kk : ∀ mem2, INVm mem2 → SX (LwE N sc) true m_Law (d + 93) 1103 (LL i) [] mem2 (bc - 8) (bs - 941) Q) : SX (LwE N sc) true m_Law (d + 93) 225 (LL i) [] mem bc bs Q := by
  obtain ⟨fs, hm⟩ := hI.m0
  refine q_aload_n d_Law_225 rfl ?_
  refine q_read (k := 1) h0 (by decide) (by omega) hN d_Law_226 d_Law_227 d_Law_228 d_Law_229 d_Law_230 ?_
  refine q_read (k := 2) h0 (by decide) (by omega) hN d_Law_231 d_Law_232 d_Law_233 d_Law_234 d_Law_235 ?_
  refine q_read (k := 3) h0 (by decide) (by omega) hN d_Law_236 d_Law_237 d_Law_238 d_Law_239 d_Law_240 ?_
  refine q_read (k := 4) h0 (by decide) (by omega) hN d_Law_241 d_Law_242 d_Law_243 d_Law_244 d_Law_245 ?_
  refine q_read (k := 5) h0 (by decide) (by omega) hN d_Law_246 d_Law_247 d_Law_248 d_Law_249 d_Law_250 ?_
  refine q_callV (y2 := m_Hou_feed) (i := 0) (ci := 11) (as := [.int (ii (sv sc (i + 1))), .int (ii (sv sc (i + 2))), .int (ii (sv sc (i + 3))), .int (ii (sv sc (i + 4))), .int (ii (sv sc (i + 5)))]) (st := []) (mc2 := 0) (ms2 := 0) d_Law_251 c_Law_18 hm ⟨_, rfl, rfl⟩ rfl rfl (Nat.le_of_ble_eq_true rfl) (Nat.zero_le _) (Nat.zero_le _) ?_
  refine st_feed sv_R sv_R sv_R sv_R sv_R hI (fun mem1 v hm1 hv hc => ?_)
  obtain ⟨v, rfl⟩ := hv
  obtain ⟨fs1, hm1⟩ := hm1
  refine q_aload_n d_Law_254 rfl ?_
  refine q_read (k := 1) h0 (by decide) (by omega) hN d_Law_255 d_Law_256 d_Law_257 d_Law_258 d_Law_259 ?_
  refine q_read (k := 2) h0 (by decide) (by omega) hN d_Law_260 d_Law_261 d_Law_262 d_Law_263 d_Law_264 ?_
  refine q_read (k := 3) h0 (by decide) (by omega) hN d_Law_265 d_Law_266 d_Law_267 d_Law_268 d_Law_269 ?_
  refine q_read (k := 4) h0 (by decide) (by omega) hN d_Law_270 d_Law_271 d_Law_272 d_Law_273 d_Law_274 ?_
  refine q_read (k := 5) h0 (by decide) (by omega) hN d_Law_275 d_Law_276 d_Law_277 d_Law_278 d_Law_279 ?_
  refine q_callV (y2 := m_Mod_feed) (i := 148) (ci := 12) (as := [.int (ii (sv sc (i + 1))), .int (ii (sv sc (i + 2))), .int (ii (sv sc (i + 3))), .int (ii (sv sc (i + 4))), .int (ii (sv sc (i + 5)))]) (st := [.int v]) (mc2 := 0) (ms2 := 0) d_Law_280 c_Law_22 hm1 ⟨_, rfl, rfl⟩ rfl rfl (Nat.le_of_ble_eq_true rfl) (Nat.zero_le _) (Nat.zero_le _) (hc _ (fun mem2 hI2 => ?_))
  exact q_icmp_eq (t := 1103) d_Law_283 rfl (fun _ => q_less (by omega) (by omega) (kk mem2 hI2)) (fun h => absurd rfl h)
theorem lwc_2 {i : Int} (hI : INVm mem) (h0 : 0 ≤ i) (h1 : i + 6 ≤ N) (hN : N ≤ 3072) (hb1 : 8 ≤ bc) (hb2 : 941 ≤ bs) (kk : ∀ mem2, INVm mem2 → SX (LwE N sc) true m_Law (d + 93) 1103 (LL i) [] mem2 (bc - 8) (bs - 941) Q) : SX (LwE N sc) true m_Law (d + 93) 288 (LL i) [] mem bc bs Q := by
  obtain ⟨fs, hm⟩ := hI.m0
  refine q_aload_n d_Law_288 rfl ?_
  refine q_read (k := 1) h0 (by decide) (by omega) hN d_Law_289 d_Law_290 d_Law_291 d_Law_292 d_Law_293 ?_
  refine q_callV (y2 := m_Hou_end) (i := 0) (ci := 11) (as := [.int (ii (sv sc (i + 1)))]) (st := []) (mc2 := 0) (ms2 := 0) d_Law_294 c_Law_23 hm ⟨_, rfl, rfl⟩ rfl rfl (Nat.le_of_ble_eq_true rfl) (Nat.zero_le _) (Nat.zero_le _) ?_
  refine st_end sv_R hI (fun mem1 v hm1 hv hc => ?_)
  obtain ⟨v, rfl⟩ := hv
  obtain ⟨fs1, hm1⟩ := hm1
  refine q_aload_n d_Law_297 rfl ?_
  refine q_read (k := 1) h0 (by decide) (by omega) hN d_Law_298 d_Law_299 d_Law_300 d_Law_301 d_Law_302 ?_
  refine q_callV (y2 := m_Mod_end) (i := 148) (ci := 12) (as := [.int (ii (sv sc (i + 1)))]) (st := [.int v]) (mc2 := 0) (ms2 := 0) d_Law_303 c_Law_27 hm1 ⟨_, rfl, rfl⟩ rfl rfl (Nat.le_of_ble_eq_true rfl) (Nat.zero_le _) (Nat.zero_le _) (hc _ (fun mem2 hI2 => ?_))
  exact q_icmp_eq (t := 1103) d_Law_306 rfl (fun _ => q_less (by omega) (by omega) (kk mem2 hI2)) (fun h => absurd rfl h)
theorem lwc_3 {i : Int} (hI : INVm mem) (h0 : 0 ≤ i) (h1 : i + 6 ≤ N) (hN : N ≤ 3072) (hb1 : 8 ≤ bc) (hb2 : 941 ≤ bs) (kk : ∀ mem2, INVm mem2 → SX (LwE N sc) true m_Law (d + 93) 1103 (LL i) [] mem2 (bc - 8) (bs - 941) Q) : SX (LwE N sc) true m_Law (d + 93) 311 (LL i) [] mem bc bs Q := by
  obtain ⟨fs, hm⟩ := hI.m0
  refine q_aload_n d_Law_311 rfl ?_
  refine q_callV (y2 := m_Hou_row) (i := 0) (ci := 11) (as := []) (st := []) (mc2 := 0) (ms2 := 0) d_Law_312 c_Law_28 hm ⟨_, rfl, rfl⟩ rfl rfl (Nat.le_of_ble_eq_true rfl) (Nat.zero_le _) (Nat.zero_le _) ?_
  refine st_row  hI (fun mem1 v hm1 hv hc => ?_)
  obtain ⟨v, rfl⟩ := hv
  obtain ⟨fs1, hm1⟩ := hm1
  refine q_aload_n d_Law_315 rfl ?_
  refine q_callV (y2 := m_Mod_row) (i := 148) (ci := 12) (as := []) (st := [.int v]) (mc2 := 0) (ms2 := 0) d_Law_316 c_Law_32 hm1 ⟨_, rfl, rfl⟩ rfl rfl (Nat.le_of_ble_eq_true rfl) (Nat.zero_le _) (Nat.zero_le _) (hc _ (fun mem2 hI2 => ?_))
  exact q_icmp_eq (t := 1103) d_Law_319 rfl (fun _ => q_less (by omega) (by omega) (kk mem2 hI2)) (fun h => absurd rfl h)
theorem lwc_4 {i : Int} (hI : INVm mem) (h0 : 0 ≤ i) (h1 : i + 6 ≤ N) (hN : N ≤ 3072) (hb1 : 8 ≤ bc) (hb2 : 941 ≤ bs) (kk : ∀ mem2, INVm mem2 → SX (LwE N sc) true m_Law (d + 93) 1103 (LL i) [] mem2 (bc - 8) (bs - 941) Q) : SX (LwE N sc) true m_Law (d + 93) 324 (LL i) [] mem bc bs Q := by
  obtain ⟨fs, hm⟩ := hI.m0
  refine q_aload_n d_Law_324 rfl ?_
  refine q_callV (y2 := m_Hou_blots) (i := 0) (ci := 11) (as := []) (st := []) (mc2 := 0) (ms2 := 0) d_Law_325 c_Law_33 hm ⟨_, rfl, rfl⟩ rfl rfl (Nat.le_of_ble_eq_true rfl) (Nat.zero_le _) (Nat.zero_le _) ?_
  refine st_blots  hI (fun mem1 v hm1 hv hc => ?_)
  obtain ⟨v, rfl⟩ := hv
  obtain ⟨fs1, hm1⟩ := hm1
  refine q_aload_n d_Law_328 rfl ?_
  refine q_callV (y2 := m_Mod_blots) (i := 148) (ci := 12) (as := []) (st := [.int v]) (mc2 := 0) (ms2 := 0) d_Law_329 c_Law_36 hm1 ⟨_, rfl, rfl⟩ rfl rfl (Nat.le_of_ble_eq_true rfl) (Nat.zero_le _) (Nat.zero_le _) (hc _ (fun mem2 hI2 => ?_))
  exact q_icmp_eq (t := 1103) d_Law_332 rfl (fun _ => q_less (by omega) (by omega) (kk mem2 hI2)) (fun h => absurd rfl h)
theorem lwc_5 {i : Int} (hI : INVm mem) (h0 : 0 ≤ i) (h1 : i + 6 ≤ N) (hN : N ≤ 3072) (hb1 : 8 ≤ bc) (hb2 : 941 ≤ bs) (kk : ∀ mem2, INVm mem2 → SX (LwE N sc) true m_Law (d + 93) 1103 (LL i) [] mem2 (bc - 8) (bs - 941) Q) : SX (LwE N sc) true m_Law (d + 93) 337 (LL i) [] mem bc bs Q := by
  obtain ⟨fs, hm⟩ := hI.m0
  refine q_aload_n d_Law_337 rfl ?_
  refine q_callV (y2 := m_Hou_law) (i := 0) (ci := 11) (as := []) (st := []) (mc2 := 8) (ms2 := 941) d_Law_338 c_Law_37 hm ⟨_, rfl, rfl⟩ rfl rfl (Nat.le_of_ble_eq_true rfl) hb1 hb2 ?_
  refine st_law  hI (fun mem1 v hm1 hv hc => ?_)
  obtain ⟨v, rfl⟩ := hv
  obtain ⟨fs1, hm1⟩ := hm1
  refine q_aload_n d_Law_341 rfl ?_
  refine q_callV (y2 := m_Mod_law) (i := 148) (ci := 12) (as := []) (st := [.int v]) (mc2 := 0) (ms2 := 0) d_Law_342 c_Law_40 hm1 ⟨_, rfl, rfl⟩ rfl rfl (Nat.le_of_ble_eq_true rfl) (Nat.zero_le _) (Nat.zero_le _) (hc _ (fun mem2 hI2 => ?_))
  exact q_icmp_eq (t := 1103) d_Law_345 rfl (fun _ => q_less (by omega) (by omega) (kk mem2 hI2)) (fun h => absurd rfl h)
theorem lwc_6 {i : Int} (hI : INVm mem) (h0 : 0 ≤ i) (h1 : i + 6 ≤ N) (hN : N ≤ 3072) (hb1 : 8 ≤ bc) (hb2 : 941 ≤ bs) (kk : ∀ mem2, INVm mem2 → SX (LwE N sc) true m_Law (d + 93) 1103 (LL i) [] mem2 (bc - 8) (bs - 941) Q) : SX (LwE N sc) true m_Law (d + 93) 350 (LL i) [] mem bc bs Q := by
  obtain ⟨fs, hm⟩ := hI.m0
  refine q_aload_n d_Law_350 rfl ?_
  refine q_callV (y2 := m_Hou_orders) (i := 0) (ci := 11) (as := []) (st := []) (mc2 := 0) (ms2 := 0) d_Law_351 c_Law_41 hm ⟨_, rfl, rfl⟩ rfl rfl (Nat.le_of_ble_eq_true rfl) (Nat.zero_le _) (Nat.zero_le _) ?_
  refine st_orders  hI (fun mem1 v hm1 hv hc => ?_)
  obtain ⟨v, rfl⟩ := hv
  obtain ⟨fs1, hm1⟩ := hm1
  refine q_aload_n d_Law_354 rfl ?_
  refine q_callV (y2 := m_Mod_orders) (i := 148) (ci := 12) (as := []) (st := [.int v]) (mc2 := 0) (ms2 := 0) d_Law_355 c_Law_44 hm1 ⟨_, rfl, rfl⟩ rfl rfl (Nat.le_of_ble_eq_true rfl) (Nat.zero_le _) (Nat.zero_le _) (hc _ (fun mem2 hI2 => ?_))
  exact q_icmp_eq (t := 1103) d_Law_358 rfl (fun _ => q_less (by omega) (by omega) (kk mem2 hI2)) (fun h => absurd rfl h)
theorem lwc_7 {i : Int} (hI : INVm mem) (h0 : 0 ≤ i) (h1 : i + 6 ≤ N) (hN : N ≤ 3072) (hb1 : 8 ≤ bc) (hb2 : 941 ≤ bs) (kk : ∀ mem2, INVm mem2 → SX (LwE N sc) true m_Law (d + 93) 1103 (LL i) [] mem2 (bc - 8) (bs - 941) Q) : SX (LwE N sc) true m_Law (d + 93) 363 (LL i) [] mem bc bs Q := by
  obtain ⟨fs, hm⟩ := hI.m0
  refine q_aload_n d_Law_363 rfl ?_
  refine q_callV (y2 := m_Hou_fault) (i := 0) (ci := 11) (as := []) (st := []) (mc2 := 0) (ms2 := 0) d_Law_364 c_Law_45 hm ⟨_, rfl, rfl⟩ rfl rfl (Nat.le_of_ble_eq_true rfl) (Nat.zero_le _) (Nat.zero_le _) ?_
  refine st_fault  hI (fun mem1 v hm1 hv hc => ?_)
  obtain ⟨v, rfl⟩ := hv
  obtain ⟨fs1, hm1⟩ := hm1
  refine q_aload_n d_Law_367 rfl ?_
  refine q_callV (y2 := m_Mod_fault) (i := 148) (ci := 12) (as := []) (st := [.int v]) (mc2 := 0) (ms2 := 0) d_Law_368 c_Law_48 hm1 ⟨_, rfl, rfl⟩ rfl rfl (Nat.le_of_ble_eq_true rfl) (Nat.zero_le _) (Nat.zero_le _) (hc _ (fun mem2 hI2 => ?_))
  exact q_icmp_eq (t := 1103) d_Law_371 rfl (fun _ => q_less (by omega) (by omega) (kk mem2 hI2)) (fun h => absurd rfl h)
theorem lwc_8 {i : Int} (hI : INVm mem) (h0 : 0 ≤ i) (h1 : i + 6 ≤ N) (hN : N ≤ 3072) (hb1 : 8 ≤ bc) (hb2 : 941 ≤ bs) (kk : ∀ mem2, INVm mem2 → SX (LwE N sc) true m_Law (d + 93) 1103 (LL i) [] mem2 (bc - 8) (bs - 941) Q) : SX (LwE N sc) true m_Law (d + 93) 376 (LL i) [] mem bc bs Q := by
  obtain ⟨fs, hm⟩ := hI.m0
  refine q_aload_n d_Law_376 rfl ?_
  refine q_callV (y2 := m_Hou_stopped) (i := 0) (ci := 11) (as := []) (st := []) (mc2 := 0) (ms2 := 0) d_Law_377 c_Law_49 hm ⟨_, rfl, rfl⟩ rfl rfl (Nat.le_of_ble_eq_true rfl) (Nat.zero_le _) (Nat.zero_le _) ?_
  refine st_stopped  hI (fun mem1 v hm1 hv hc => ?_)
  obtain ⟨v, rfl⟩ := hv
  obtain ⟨fs1, hm1⟩ := hm1
  refine q_aload_n d_Law_380 rfl ?_
  refine q_callV (y2 := m_Mod_stopped) (i := 148) (ci := 12) (as := []) (st := [.int v]) (mc2 := 0) (ms2 := 0) d_Law_381 c_Law_52 hm1 ⟨_, rfl, rfl⟩ rfl rfl (Nat.le_of_ble_eq_true rfl) (Nat.zero_le _) (Nat.zero_le _) (hc _ (fun mem2 hI2 => ?_))
  exact q_icmp_eq (t := 1103) d_Law_384 rfl (fun _ => q_less (by omega) (by omega) (kk mem2 hI2)) (fun h => absurd rfl h)
theorem lwc_9 {i : Int} (hI : INVm mem) (h0 : 0 ≤ i) (h1 : i + 6 ≤ N) (hN : N ≤ 3072) (hb1 : 8 ≤ bc) (hb2 : 941 ≤ bs) (kk : ∀ mem2, INVm mem2 → SX (LwE N sc) true m_Law (d + 93) 1103 (LL i) [] mem2 (bc - 8) (bs - 941) Q) : SX (LwE N sc) true m_Law (d + 93) 389 (LL i) [] mem bc bs Q := by
  obtain ⟨fs, hm⟩ := hI.m0
  refine q_aload_n d_Law_389 rfl ?_
  refine q_read (k := 1) h0 (by decide) (by omega) hN d_Law_390 d_Law_391 d_Law_392 d_Law_393 d_Law_394 ?_
  refine q_callV (y2 := m_Hou_force) (i := 0) (ci := 11) (as := [.int (ii (sv sc (i + 1)))]) (st := []) (mc2 := 0) (ms2 := 0) d_Law_395 c_Law_53 hm ⟨_, rfl, rfl⟩ rfl rfl (Nat.le_of_ble_eq_true rfl) (Nat.zero_le _) (Nat.zero_le _) ?_
  refine st_force sv_R hI (fun mem1 v hm1 hv hc => ?_)
  obtain ⟨v, rfl⟩ := hv
  obtain ⟨fs1, hm1⟩ := hm1
  refine q_aload_n d_Law_398 rfl ?_
  refine q_read (k := 1) h0 (by decide) (by omega) hN d_Law_399 d_Law_400 d_Law_401 d_Law_402 d_Law_403 ?_
  refine q_callV (y2 := m_Mod_force) (i := 148) (ci := 12) (as := [.int (ii (sv sc (i + 1)))]) (st := [.int v]) (mc2 := 0) (ms2 := 0) d_Law_404 c_Law_56 hm1 ⟨_, rfl, rfl⟩ rfl rfl (Nat.le_of_ble_eq_true rfl) (Nat.zero_le _) (Nat.zero_le _) (hc _ (fun mem2 hI2 => ?_))
  exact q_icmp_eq (t := 1103) d_Law_407 rfl (fun _ => q_less (by omega) (by omega) (kk mem2 hI2)) (fun h => absurd rfl h)
theorem lwc_10 {i : Int} (hI : INVm mem) (h0 : 0 ≤ i) (h1 : i + 6 ≤ N) (hN : N ≤ 3072) (hb1 : 8 ≤ bc) (hb2 : 941 ≤ bs) (kk : ∀ mem2, INVm mem2 → SX (LwE N sc) true m_Law (d + 93) 1103 (LL i) [] mem2 (bc - 8) (bs - 941) Q) : SX (LwE N sc) true m_Law (d + 93) 412 (LL i) [] mem bc bs Q := by
  obtain ⟨fs, hm⟩ := hI.m0
  refine q_aload_n d_Law_412 rfl ?_
  refine q_read (k := 1) h0 (by decide) (by omega) hN d_Law_413 d_Law_414 d_Law_415 d_Law_416 d_Law_417 ?_
  refine q_read (k := 2) h0 (by decide) (by omega) hN d_Law_418 d_Law_419 d_Law_420 d_Law_421 d_Law_422 ?_
  refine q_read (k := 3) h0 (by decide) (by omega) hN d_Law_423 d_Law_424 d_Law_425 d_Law_426 d_Law_427 ?_
  refine q_callV (y2 := m_Hou_asks) (i := 0) (ci := 11) (as := [.int (ii (sv sc (i + 1))), .int (ii (sv sc (i + 2))), .int (ii (sv sc (i + 3)))]) (st := []) (mc2 := 0) (ms2 := 0) d_Law_428 c_Law_57 hm ⟨_, rfl, rfl⟩ rfl rfl (Nat.le_of_ble_eq_true rfl) (Nat.zero_le _) (Nat.zero_le _) ?_
  refine st_asks sv_R sv_R sv_R hI (fun mem1 v hm1 hv hc => ?_)
  obtain ⟨v, rfl⟩ := hv
  obtain ⟨fs1, hm1⟩ := hm1
  refine q_aload_n d_Law_431 rfl ?_
  refine q_read (k := 1) h0 (by decide) (by omega) hN d_Law_432 d_Law_433 d_Law_434 d_Law_435 d_Law_436 ?_
  refine q_read (k := 2) h0 (by decide) (by omega) hN d_Law_437 d_Law_438 d_Law_439 d_Law_440 d_Law_441 ?_
  refine q_read (k := 3) h0 (by decide) (by omega) hN d_Law_442 d_Law_443 d_Law_444 d_Law_445 d_Law_446 ?_
  refine q_callV (y2 := m_Mod_asks) (i := 148) (ci := 12) (as := [.int (ii (sv sc (i + 1))), .int (ii (sv sc (i + 2))), .int (ii (sv sc (i + 3)))]) (st := [.int v]) (mc2 := 0) (ms2 := 0) d_Law_447 c_Law_61 hm1 ⟨_, rfl, rfl⟩ rfl rfl (Nat.le_of_ble_eq_true rfl) (Nat.zero_le _) (Nat.zero_le _) (hc _ (fun mem2 hI2 => ?_))
  exact q_icmp_eq (t := 1103) d_Law_450 rfl (fun _ => q_less (by omega) (by omega) (kk mem2 hI2)) (fun h => absurd rfl h)
theorem lwc_11 {i : Int} (hI : INVm mem) (h0 : 0 ≤ i) (h1 : i + 6 ≤ N) (hN : N ≤ 3072) (hb1 : 8 ≤ bc) (hb2 : 941 ≤ bs) (kk : ∀ mem2, INVm mem2 → SX (LwE N sc) true m_Law (d + 93) 1103 (LL i) [] mem2 (bc - 8) (bs - 941) Q) : SX (LwE N sc) true m_Law (d + 93) 455 (LL i) [] mem bc bs Q := by
  obtain ⟨fs, hm⟩ := hI.m0
  refine q_aload_n d_Law_455 rfl ?_
  refine q_read (k := 1) h0 (by decide) (by omega) hN d_Law_456 d_Law_457 d_Law_458 d_Law_459 d_Law_460 ?_
  refine q_read (k := 2) h0 (by decide) (by omega) hN d_Law_461 d_Law_462 d_Law_463 d_Law_464 d_Law_465 ?_
  refine q_callV (y2 := m_Hou_put) (i := 0) (ci := 11) (as := [.int (ii (sv sc (i + 1))), .int (ii (sv sc (i + 2)))]) (st := []) (mc2 := 0) (ms2 := 0) d_Law_466 c_Law_62 hm ⟨_, rfl, rfl⟩ rfl rfl (Nat.le_of_ble_eq_true rfl) (Nat.zero_le _) (Nat.zero_le _) ?_
  refine st_put sv_R sv_R hI (fun mem1 v hm1 hv hc => ?_)
  obtain ⟨v, rfl⟩ := hv
  obtain ⟨fs1, hm1⟩ := hm1
  refine q_aload_n d_Law_469 rfl ?_
  refine q_read (k := 1) h0 (by decide) (by omega) hN d_Law_470 d_Law_471 d_Law_472 d_Law_473 d_Law_474 ?_
  refine q_read (k := 2) h0 (by decide) (by omega) hN d_Law_475 d_Law_476 d_Law_477 d_Law_478 d_Law_479 ?_
  refine q_callV (y2 := m_Mod_put) (i := 148) (ci := 12) (as := [.int (ii (sv sc (i + 1))), .int (ii (sv sc (i + 2)))]) (st := [.int v]) (mc2 := 0) (ms2 := 0) d_Law_480 c_Law_65 hm1 ⟨_, rfl, rfl⟩ rfl rfl (Nat.le_of_ble_eq_true rfl) (Nat.zero_le _) (Nat.zero_le _) (hc _ (fun mem2 hI2 => ?_))
  exact q_icmp_eq (t := 1103) d_Law_483 rfl (fun _ => q_less (by omega) (by omega) (kk mem2 hI2)) (fun h => absurd rfl h)
theorem lwc_12 {i : Int} (hI : INVm mem) (h0 : 0 ≤ i) (h1 : i + 6 ≤ N) (hN : N ≤ 3072) (hb1 : 8 ≤ bc) (hb2 : 941 ≤ bs) (kk : ∀ mem2, INVm mem2 → SX (LwE N sc) true m_Law (d + 93) 1103 (LL i) [] mem2 (bc - 8) (bs - 941) Q) : SX (LwE N sc) true m_Law (d + 93) 488 (LL i) [] mem bc bs Q := by
  obtain ⟨fs, hm⟩ := hI.m0
  refine q_aload_n d_Law_488 rfl ?_
  refine q_read (k := 1) h0 (by decide) (by omega) hN d_Law_489 d_Law_490 d_Law_491 d_Law_492 d_Law_493 ?_
  refine q_callV (y2 := m_Hou_cut) (i := 0) (ci := 11) (as := [.int (ii (sv sc (i + 1)))]) (st := []) (mc2 := 0) (ms2 := 0) d_Law_494 c_Law_66 hm ⟨_, rfl, rfl⟩ rfl rfl (Nat.le_of_ble_eq_true rfl) (Nat.zero_le _) (Nat.zero_le _) ?_
  refine st_cut sv_R hI (fun mem1 v hm1 hv hc => ?_)
  obtain ⟨v, rfl⟩ := hv
  obtain ⟨fs1, hm1⟩ := hm1
  refine q_aload_n d_Law_497 rfl ?_
  refine q_read (k := 1) h0 (by decide) (by omega) hN d_Law_498 d_Law_499 d_Law_500 d_Law_501 d_Law_502 ?_
  refine q_callV (y2 := m_Mod_cut) (i := 148) (ci := 12) (as := [.int (ii (sv sc (i + 1)))]) (st := [.int v]) (mc2 := 0) (ms2 := 0) d_Law_503 c_Law_69 hm1 ⟨_, rfl, rfl⟩ rfl rfl (Nat.le_of_ble_eq_true rfl) (Nat.zero_le _) (Nat.zero_le _) (hc _ (fun mem2 hI2 => ?_))
  exact q_icmp_eq (t := 1103) d_Law_506 rfl (fun _ => q_less (by omega) (by omega) (kk mem2 hI2)) (fun h => absurd rfl h)
theorem lwc_13 {i : Int} (hI : INVm mem) (h0 : 0 ≤ i) (h1 : i + 6 ≤ N) (hN : N ≤ 3072) (hb1 : 8 ≤ bc) (hb2 : 941 ≤ bs) (kk : ∀ mem2, INVm mem2 → SX (LwE N sc) true m_Law (d + 93) 1103 (LL i) [] mem2 (bc - 8) (bs - 941) Q) : SX (LwE N sc) true m_Law (d + 93) 511 (LL i) [] mem bc bs Q := by
  obtain ⟨fs, hm⟩ := hI.m0
  refine q_aload_n d_Law_511 rfl ?_
  refine q_read (k := 1) h0 (by decide) (by omega) hN d_Law_512 d_Law_513 d_Law_514 d_Law_515 d_Law_516 ?_
  refine q_read (k := 2) h0 (by decide) (by omega) hN d_Law_517 d_Law_518 d_Law_519 d_Law_520 d_Law_521 ?_
  refine q_callV (y2 := m_Hou_turn) (i := 0) (ci := 11) (as := [.int (ii (sv sc (i + 1))), .int (ii (sv sc (i + 2)))]) (st := []) (mc2 := 0) (ms2 := 0) d_Law_522 c_Law_70 hm ⟨_, rfl, rfl⟩ rfl rfl (Nat.le_of_ble_eq_true rfl) (Nat.zero_le _) (Nat.zero_le _) ?_
  refine st_turn sv_R sv_R hI (fun mem1 v hm1 hv hc => ?_)
  obtain ⟨v, rfl⟩ := hv
  obtain ⟨fs1, hm1⟩ := hm1
  refine q_aload_n d_Law_525 rfl ?_
  refine q_read (k := 1) h0 (by decide) (by omega) hN d_Law_526 d_Law_527 d_Law_528 d_Law_529 d_Law_530 ?_
  refine q_read (k := 2) h0 (by decide) (by omega) hN d_Law_531 d_Law_532 d_Law_533 d_Law_534 d_Law_535 ?_
  refine q_callV (y2 := m_Mod_turn) (i := 148) (ci := 12) (as := [.int (ii (sv sc (i + 1))), .int (ii (sv sc (i + 2)))]) (st := [.int v]) (mc2 := 0) (ms2 := 0) d_Law_536 c_Law_73 hm1 ⟨_, rfl, rfl⟩ rfl rfl (Nat.le_of_ble_eq_true rfl) (Nat.zero_le _) (Nat.zero_le _) (hc _ (fun mem2 hI2 => ?_))
  exact q_icmp_eq (t := 1103) d_Law_539 rfl (fun _ => q_less (by omega) (by omega) (kk mem2 hI2)) (fun h => absurd rfl h)
theorem lwc_14 {i : Int} (hI : INVm mem) (h0 : 0 ≤ i) (h1 : i + 6 ≤ N) (hN : N ≤ 3072) (hb1 : 8 ≤ bc) (hb2 : 941 ≤ bs) (kk : ∀ mem2, INVm mem2 → SX (LwE N sc) true m_Law (d + 93) 1103 (LL i) [] mem2 (bc - 8) (bs - 941) Q) : SX (LwE N sc) true m_Law (d + 93) 544 (LL i) [] mem bc bs Q := by
  obtain ⟨fs, hm⟩ := hI.m0
  refine q_aload_n d_Law_544 rfl ?_
  refine q_callV (y2 := m_Hou_pass) (i := 0) (ci := 11) (as := []) (st := []) (mc2 := 0) (ms2 := 0) d_Law_545 c_Law_74 hm ⟨_, rfl, rfl⟩ rfl rfl (Nat.le_of_ble_eq_true rfl) (Nat.zero_le _) (Nat.zero_le _) ?_
  refine st_pass  hI (fun mem1 v hm1 hv hc => ?_)
  obtain ⟨v, rfl⟩ := hv
  obtain ⟨fs1, hm1⟩ := hm1
  refine q_aload_n d_Law_548 rfl ?_
  refine q_callV (y2 := m_Mod_pass) (i := 148) (ci := 12) (as := []) (st := [.int v]) (mc2 := 0) (ms2 := 0) d_Law_549 c_Law_77 hm1 ⟨_, rfl, rfl⟩ rfl rfl (Nat.le_of_ble_eq_true rfl) (Nat.zero_le _) (Nat.zero_le _) (hc _ (fun mem2 hI2 => ?_))
  exact q_icmp_eq (t := 1103) d_Law_552 rfl (fun _ => q_less (by omega) (by omega) (kk mem2 hI2)) (fun h => absurd rfl h)
theorem lwc_15 {i : Int} (hI : INVm mem) (h0 : 0 ≤ i) (h1 : i + 6 ≤ N) (hN : N ≤ 3072) (hb1 : 8 ≤ bc) (hb2 : 941 ≤ bs) (kk : ∀ mem2, INVm mem2 → SX (LwE N sc) true m_Law (d + 93) 1103 (LL i) [] mem2 (bc - 8) (bs - 941) Q) : SX (LwE N sc) true m_Law (d + 93) 557 (LL i) [] mem bc bs Q := by
  obtain ⟨fs, hm⟩ := hI.m0
  refine q_aload_n d_Law_557 rfl ?_
  refine q_callV (y2 := m_Hou_undo) (i := 0) (ci := 11) (as := []) (st := []) (mc2 := 0) (ms2 := 0) d_Law_558 c_Law_78 hm ⟨_, rfl, rfl⟩ rfl rfl (Nat.le_of_ble_eq_true rfl) (Nat.zero_le _) (Nat.zero_le _) ?_
  refine st_undo  hI (fun mem1 v hm1 hv hc => ?_)
  obtain ⟨v, rfl⟩ := hv
  obtain ⟨fs1, hm1⟩ := hm1
  refine q_aload_n d_Law_561 rfl ?_
  refine q_callV (y2 := m_Mod_undo) (i := 148) (ci := 12) (as := []) (st := [.int v]) (mc2 := 0) (ms2 := 0) d_Law_562 c_Law_81 hm1 ⟨_, rfl, rfl⟩ rfl rfl (Nat.le_of_ble_eq_true rfl) (Nat.zero_le _) (Nat.zero_le _) (hc _ (fun mem2 hI2 => ?_))
  exact q_icmp_eq (t := 1103) d_Law_565 rfl (fun _ => q_less (by omega) (by omega) (kk mem2 hI2)) (fun h => absurd rfl h)
theorem lwc_16 {i : Int} (hI : INVm mem) (h0 : 0 ≤ i) (h1 : i + 6 ≤ N) (hN : N ≤ 3072) (hb1 : 8 ≤ bc) (hb2 : 941 ≤ bs) (kk : ∀ mem2, INVm mem2 → SX (LwE N sc) true m_Law (d + 93) 1103 (LL i) [] mem2 (bc - 8) (bs - 941) Q) : SX (LwE N sc) true m_Law (d + 93) 570 (LL i) [] mem bc bs Q := by
  obtain ⟨fs, hm⟩ := hI.m0
  refine q_aload_n d_Law_570 rfl ?_
  refine q_read (k := 1) h0 (by decide) (by omega) hN d_Law_571 d_Law_572 d_Law_573 d_Law_574 d_Law_575 ?_
  refine q_read (k := 2) h0 (by decide) (by omega) hN d_Law_576 d_Law_577 d_Law_578 d_Law_579 d_Law_580 ?_
  refine q_callV (y2 := m_Hou_at) (i := 0) (ci := 11) (as := [.int (ii (sv sc (i + 1))), .int (ii (sv sc (i + 2)))]) (st := []) (mc2 := 0) (ms2 := 0) d_Law_581 c_Law_82 hm ⟨_, rfl, rfl⟩ rfl rfl (Nat.le_of_ble_eq_true rfl) (Nat.zero_le _) (Nat.zero_le _) ?_
  refine st_at sv_R sv_R hI (fun mem1 v hm1 hv hc => ?_)
  obtain ⟨v, rfl⟩ := hv
  obtain ⟨fs1, hm1⟩ := hm1
  refine q_aload_n d_Law_584 rfl ?_
  refine q_read (k := 1) h0 (by decide) (by omega) hN d_Law_585 d_Law_586 d_Law_587 d_Law_588 d_Law_589 ?_
  refine q_read (k := 2) h0 (by decide) (by omega) hN d_Law_590 d_Law_591 d_Law_592 d_Law_593 d_Law_594 ?_
  refine q_callV (y2 := m_Mod_at) (i := 148) (ci := 12) (as := [.int (ii (sv sc (i + 1))), .int (ii (sv sc (i + 2)))]) (st := [.int v]) (mc2 := 0) (ms2 := 0) d_Law_595 c_Law_85 hm1 ⟨_, rfl, rfl⟩ rfl rfl (Nat.le_of_ble_eq_true rfl) (Nat.zero_le _) (Nat.zero_le _) (hc _ (fun mem2 hI2 => ?_))
  exact q_icmp_eq (t := 1103) d_Law_598 rfl (fun _ => q_less (by omega) (by omega) (kk mem2 hI2)) (fun h => absurd rfl h)
theorem lwc_17 {i : Int} (hI : INVm mem) (h0 : 0 ≤ i) (h1 : i + 6 ≤ N) (hN : N ≤ 3072) (hb1 : 8 ≤ bc) (hb2 : 941 ≤ bs) (kk : ∀ mem2, INVm mem2 → SX (LwE N sc) true m_Law (d + 93) 1103 (LL i) [] mem2 (bc - 8) (bs - 941) Q) : SX (LwE N sc) true m_Law (d + 93) 603 (LL i) [] mem bc bs Q := by
  obtain ⟨fs, hm⟩ := hI.m0
  refine q_aload_n d_Law_603 rfl ?_
  refine q_callV (y2 := m_Hou_said) (i := 0) (ci := 11) (as := []) (st := []) (mc2 := 0) (ms2 := 0) d_Law_604 c_Law_86 hm ⟨_, rfl, rfl⟩ rfl rfl (Nat.le_of_ble_eq_true rfl) (Nat.zero_le _) (Nat.zero_le _) ?_
  refine st_said  hI (fun mem1 v hm1 hv hc => ?_)
  obtain ⟨v, rfl⟩ := hv
  obtain ⟨fs1, hm1⟩ := hm1
  refine q_aload_n d_Law_607 rfl ?_
  refine q_callV (y2 := m_Mod_said) (i := 148) (ci := 12) (as := []) (st := [.int v]) (mc2 := 0) (ms2 := 0) d_Law_608 c_Law_89 hm1 ⟨_, rfl, rfl⟩ rfl rfl (Nat.le_of_ble_eq_true rfl) (Nat.zero_le _) (Nat.zero_le _) (hc _ (fun mem2 hI2 => ?_))
  exact q_icmp_eq (t := 1103) d_Law_611 rfl (fun _ => q_less (by omega) (by omega) (kk mem2 hI2)) (fun h => absurd rfl h)
theorem lwc_18 {i : Int} (hI : INVm mem) (h0 : 0 ≤ i) (h1 : i + 6 ≤ N) (hN : N ≤ 3072) (hb1 : 8 ≤ bc) (hb2 : 941 ≤ bs) (kk : ∀ mem2, INVm mem2 → SX (LwE N sc) true m_Law (d + 93) 1103 (LL i) [] mem2 (bc - 8) (bs - 941) Q) : SX (LwE N sc) true m_Law (d + 93) 616 (LL i) [] mem bc bs Q := by
  obtain ⟨fs, hm⟩ := hI.m0
  refine q_aload_n d_Law_616 rfl ?_
  refine q_read (k := 1) h0 (by decide) (by omega) hN d_Law_617 d_Law_618 d_Law_619 d_Law_620 d_Law_621 ?_
  refine q_read (k := 2) h0 (by decide) (by omega) hN d_Law_622 d_Law_623 d_Law_624 d_Law_625 d_Law_626 ?_
  refine q_callV (y2 := m_Hou_whole) (i := 0) (ci := 11) (as := [.int (ii (sv sc (i + 1))), .int (ii (sv sc (i + 2)))]) (st := []) (mc2 := 0) (ms2 := 0) d_Law_627 c_Law_90 hm ⟨_, rfl, rfl⟩ rfl rfl (Nat.le_of_ble_eq_true rfl) (Nat.zero_le _) (Nat.zero_le _) ?_
  refine st_whole sv_R sv_R hI (fun mem1 v hm1 hv hc => ?_)
  obtain ⟨v, rfl⟩ := hv
  obtain ⟨fs1, hm1⟩ := hm1
  refine q_aload_n d_Law_630 rfl ?_
  refine q_read (k := 1) h0 (by decide) (by omega) hN d_Law_631 d_Law_632 d_Law_633 d_Law_634 d_Law_635 ?_
  refine q_read (k := 2) h0 (by decide) (by omega) hN d_Law_636 d_Law_637 d_Law_638 d_Law_639 d_Law_640 ?_
  refine q_callV (y2 := m_Mod_whole) (i := 148) (ci := 12) (as := [.int (ii (sv sc (i + 1))), .int (ii (sv sc (i + 2)))]) (st := [.int v]) (mc2 := 0) (ms2 := 0) d_Law_641 c_Law_93 hm1 ⟨_, rfl, rfl⟩ rfl rfl (Nat.le_of_ble_eq_true rfl) (Nat.zero_le _) (Nat.zero_le _) (hc _ (fun mem2 hI2 => ?_))
  exact q_icmp_eq (t := 1103) d_Law_644 rfl (fun _ => q_less (by omega) (by omega) (kk mem2 hI2)) (fun h => absurd rfl h)
theorem lwc_19 {i : Int} (hI : INVm mem) (h0 : 0 ≤ i) (h1 : i + 6 ≤ N) (hN : N ≤ 3072) (hb1 : 8 ≤ bc) (hb2 : 941 ≤ bs) (kk : ∀ mem2, INVm mem2 → SX (LwE N sc) true m_Law (d + 93) 1103 (LL i) [] mem2 (bc - 8) (bs - 941) Q) : SX (LwE N sc) true m_Law (d + 93) 649 (LL i) [] mem bc bs Q := by
  obtain ⟨fs, hm⟩ := hI.m0
  refine q_aload_n d_Law_649 rfl ?_
  refine q_read (k := 1) h0 (by decide) (by omega) hN d_Law_650 d_Law_651 d_Law_652 d_Law_653 d_Law_654 ?_
  refine q_callV (y2 := m_Hou_mend) (i := 0) (ci := 11) (as := [.int (ii (sv sc (i + 1)))]) (st := []) (mc2 := 0) (ms2 := 0) d_Law_655 c_Law_94 hm ⟨_, rfl, rfl⟩ rfl rfl (Nat.le_of_ble_eq_true rfl) (Nat.zero_le _) (Nat.zero_le _) ?_
  refine st_mend sv_R hI (fun mem1 v hm1 hv hc => ?_)
  obtain ⟨v, rfl⟩ := hv
  obtain ⟨fs1, hm1⟩ := hm1
  refine q_aload_n d_Law_658 rfl ?_
  refine q_read (k := 1) h0 (by decide) (by omega) hN d_Law_659 d_Law_660 d_Law_661 d_Law_662 d_Law_663 ?_
  refine q_callV (y2 := m_Mod_mend) (i := 148) (ci := 12) (as := [.int (ii (sv sc (i + 1)))]) (st := [.int v]) (mc2 := 0) (ms2 := 0) d_Law_664 c_Law_97 hm1 ⟨_, rfl, rfl⟩ rfl rfl (Nat.le_of_ble_eq_true rfl) (Nat.zero_le _) (Nat.zero_le _) (hc _ (fun mem2 hI2 => ?_))
  exact q_icmp_eq (t := 1103) d_Law_667 rfl (fun _ => q_less (by omega) (by omega) (kk mem2 hI2)) (fun h => absurd rfl h)
theorem lwc_20 {i : Int} (hI : INVm mem) (h0 : 0 ≤ i) (h1 : i + 6 ≤ N) (hN : N ≤ 3072) (hb1 : 8 ≤ bc) (hb2 : 941 ≤ bs) (kk : ∀ mem2, INVm mem2 → SX (LwE N sc) true m_Law (d + 93) 1103 (LL i) [] mem2 (bc - 8) (bs - 941) Q) : SX (LwE N sc) true m_Law (d + 93) 672 (LL i) [] mem bc bs Q := by
  obtain ⟨fs, hm⟩ := hI.m0
  refine q_aload_n d_Law_672 rfl ?_
  refine q_read (k := 1) h0 (by decide) (by omega) hN d_Law_673 d_Law_674 d_Law_675 d_Law_676 d_Law_677 ?_
  refine q_callV (y2 := m_Hou_strike) (i := 0) (ci := 11) (as := [.int (ii (sv sc (i + 1)))]) (st := []) (mc2 := 0) (ms2 := 0) d_Law_678 c_Law_98 hm ⟨_, rfl, rfl⟩ rfl rfl (Nat.le_of_ble_eq_true rfl) (Nat.zero_le _) (Nat.zero_le _) ?_
  refine st_strike sv_R hI (fun mem1 v hm1 hv hc => ?_)
  obtain ⟨v, rfl⟩ := hv
  obtain ⟨fs1, hm1⟩ := hm1
  refine q_aload_n d_Law_681 rfl ?_
  refine q_read (k := 1) h0 (by decide) (by omega) hN d_Law_682 d_Law_683 d_Law_684 d_Law_685 d_Law_686 ?_
  refine q_callV (y2 := m_Mod_strike) (i := 148) (ci := 12) (as := [.int (ii (sv sc (i + 1)))]) (st := [.int v]) (mc2 := 0) (ms2 := 0) d_Law_687 c_Law_101 hm1 ⟨_, rfl, rfl⟩ rfl rfl (Nat.le_of_ble_eq_true rfl) (Nat.zero_le _) (Nat.zero_le _) (hc _ (fun mem2 hI2 => ?_))
  exact q_icmp_eq (t := 1103) d_Law_690 rfl (fun _ => q_less (by omega) (by omega) (kk mem2 hI2)) (fun h => absurd rfl h)
theorem lwc_21 {i : Int} (hI : INVm mem) (h0 : 0 ≤ i) (h1 : i + 6 ≤ N) (hN : N ≤ 3072) (hb1 : 8 ≤ bc) (hb2 : 941 ≤ bs) (kk : ∀ mem2, INVm mem2 → SX (LwE N sc) true m_Law (d + 93) 1103 (LL i) [] mem2 (bc - 8) (bs - 941) Q) : SX (LwE N sc) true m_Law (d + 93) 695 (LL i) [] mem bc bs Q := by
  obtain ⟨fs, hm⟩ := hI.m0
  refine q_aload_n d_Law_695 rfl ?_
  refine q_read (k := 1) h0 (by decide) (by omega) hN d_Law_696 d_Law_697 d_Law_698 d_Law_699 d_Law_700 ?_
  refine q_callV (y2 := m_Hou_run) (i := 0) (ci := 11) (as := [.int (ii (sv sc (i + 1)))]) (st := []) (mc2 := 0) (ms2 := 0) d_Law_701 c_Law_102 hm ⟨_, rfl, rfl⟩ rfl rfl (Nat.le_of_ble_eq_true rfl) (Nat.zero_le _) (Nat.zero_le _) ?_
  refine st_run sv_R hI (fun mem1 v hm1 hv hc => ?_)
  obtain ⟨v, rfl⟩ := hv
  obtain ⟨fs1, hm1⟩ := hm1
  refine q_aload_n d_Law_704 rfl ?_
  refine q_read (k := 1) h0 (by decide) (by omega) hN d_Law_705 d_Law_706 d_Law_707 d_Law_708 d_Law_709 ?_
  refine q_callV (y2 := m_Mod_run) (i := 148) (ci := 12) (as := [.int (ii (sv sc (i + 1)))]) (st := [.int v]) (mc2 := 0) (ms2 := 0) d_Law_710 c_Law_105 hm1 ⟨_, rfl, rfl⟩ rfl rfl (Nat.le_of_ble_eq_true rfl) (Nat.zero_le _) (Nat.zero_le _) (hc _ (fun mem2 hI2 => ?_))
  exact q_icmp_eq (t := 1103) d_Law_713 rfl (fun _ => q_less (by omega) (by omega) (kk mem2 hI2)) (fun h => absurd rfl h)
theorem lwc_22 {i : Int} (hI : INVm mem) (h0 : 0 ≤ i) (h1 : i + 6 ≤ N) (hN : N ≤ 3072) (hb1 : 8 ≤ bc) (hb2 : 941 ≤ bs) (kk : ∀ mem2, INVm mem2 → SX (LwE N sc) true m_Law (d + 93) 1103 (LL i) [] mem2 (bc - 8) (bs - 941) Q) : SX (LwE N sc) true m_Law (d + 93) 718 (LL i) [] mem bc bs Q := by
  obtain ⟨fs, hm⟩ := hI.m0
  refine q_aload_n d_Law_718 rfl ?_
  refine q_read (k := 1) h0 (by decide) (by omega) hN d_Law_719 d_Law_720 d_Law_721 d_Law_722 d_Law_723 ?_
  refine q_callV (y2 := m_Hou_fits) (i := 0) (ci := 11) (as := [.int (ii (sv sc (i + 1)))]) (st := []) (mc2 := 0) (ms2 := 0) d_Law_724 c_Law_106 hm ⟨_, rfl, rfl⟩ rfl rfl (Nat.le_of_ble_eq_true rfl) (Nat.zero_le _) (Nat.zero_le _) ?_
  refine st_fits sv_R hI (fun mem1 v hm1 hv hc => ?_)
  obtain ⟨v, rfl⟩ := hv
  obtain ⟨fs1, hm1⟩ := hm1
  refine q_aload_n d_Law_727 rfl ?_
  refine q_read (k := 1) h0 (by decide) (by omega) hN d_Law_728 d_Law_729 d_Law_730 d_Law_731 d_Law_732 ?_
  refine q_callV (y2 := m_Mod_fits) (i := 148) (ci := 12) (as := [.int (ii (sv sc (i + 1)))]) (st := [.int v]) (mc2 := 0) (ms2 := 0) d_Law_733 c_Law_109 hm1 ⟨_, rfl, rfl⟩ rfl rfl (Nat.le_of_ble_eq_true rfl) (Nat.zero_le _) (Nat.zero_le _) (hc _ (fun mem2 hI2 => ?_))
  exact q_icmp_eq (t := 1103) d_Law_736 rfl (fun _ => q_less (by omega) (by omega) (kk mem2 hI2)) (fun h => absurd rfl h)
theorem lwc_23 {i : Int} (hI : INVm mem) (h0 : 0 ≤ i) (h1 : i + 6 ≤ N) (hN : N ≤ 3072) (hb1 : 8 ≤ bc) (hb2 : 941 ≤ bs) (kk : ∀ mem2, INVm mem2 → SX (LwE N sc) true m_Law (d + 93) 1103 (LL i) [] mem2 (bc - 8) (bs - 941) Q) : SX (LwE N sc) true m_Law (d + 93) 741 (LL i) [] mem bc bs Q := by
  obtain ⟨fs, hm⟩ := hI.m0
  refine q_aload_n d_Law_741 rfl ?_
  refine q_read (k := 1) h0 (by decide) (by omega) hN d_Law_742 d_Law_743 d_Law_744 d_Law_745 d_Law_746 ?_
  refine q_read (k := 2) h0 (by decide) (by omega) hN d_Law_747 d_Law_748 d_Law_749 d_Law_750 d_Law_751 ?_
  refine q_callV (y2 := m_Hou_rows) (i := 0) (ci := 11) (as := [.int (ii (sv sc (i + 1))), .int (ii (sv sc (i + 2)))]) (st := []) (mc2 := 0) (ms2 := 0) d_Law_752 c_Law_110 hm ⟨_, rfl, rfl⟩ rfl rfl (Nat.le_of_ble_eq_true rfl) (Nat.zero_le _) (Nat.zero_le _) ?_
  refine st_rows sv_R sv_R hI (fun mem1 v hm1 hv hc => ?_)
  obtain ⟨v, rfl⟩ := hv
  obtain ⟨fs1, hm1⟩ := hm1
  refine q_aload_n d_Law_755 rfl ?_
  refine q_read (k := 1) h0 (by decide) (by omega) hN d_Law_756 d_Law_757 d_Law_758 d_Law_759 d_Law_760 ?_
  refine q_read (k := 2) h0 (by decide) (by omega) hN d_Law_761 d_Law_762 d_Law_763 d_Law_764 d_Law_765 ?_
  refine q_callV (y2 := m_Mod_rows) (i := 148) (ci := 12) (as := [.int (ii (sv sc (i + 1))), .int (ii (sv sc (i + 2)))]) (st := [.long v]) (mc2 := 0) (ms2 := 0) d_Law_766 c_Law_114 hm1 ⟨_, rfl, rfl⟩ rfl rfl (Nat.le_of_ble_eq_true rfl) (Nat.zero_le _) (Nat.zero_le _) (hc _ (fun mem2 hI2 => ?_))
  refine q_lcmp d_Law_769 ?_
  exact q_if_eq (t := 1103) d_Law_770 rfl (fun _ => q_less (by omega) (by omega) (kk mem2 hI2)) (fun h => absurd (lg_self v) h)
theorem lwc_24 {i : Int} (hI : INVm mem) (h0 : 0 ≤ i) (h1 : i + 6 ≤ N) (hN : N ≤ 3072) (hb1 : 8 ≤ bc) (hb2 : 941 ≤ bs) (kk : ∀ mem2, INVm mem2 → SX (LwE N sc) true m_Law (d + 93) 1103 (LL i) [] mem2 (bc - 8) (bs - 941) Q) : SX (LwE N sc) true m_Law (d + 93) 775 (LL i) [] mem bc bs Q := by
  obtain ⟨fs, hm⟩ := hI.m0
  refine q_aload_n d_Law_775 rfl ?_
  refine q_read (k := 1) h0 (by decide) (by omega) hN d_Law_776 d_Law_777 d_Law_778 d_Law_779 d_Law_780 ?_
  refine q_read (k := 2) h0 (by decide) (by omega) hN d_Law_781 d_Law_782 d_Law_783 d_Law_784 d_Law_785 ?_
  refine q_i2l d_Law_786 ?_
  refine q_bipush (v := ii 32) d_Law_787 (by decide) ?_
  refine q_lshl d_Law_789 ?_
  refine q_read (k := 3) h0 (by decide) (by omega) hN d_Law_790 d_Law_791 d_Law_792 d_Law_793 d_Law_794 ?_
  refine q_i2l d_Law_795 ?_
  refine q_ldc2 d_Law_796 kl_Law_115 ?_
  refine q_land d_Law_799 ?_
  refine q_lor d_Law_800 ?_
  refine q_read (k := 4) h0 (by decide) (by omega) hN d_Law_801 d_Law_802 d_Law_803 d_Law_804 d_Law_805 ?_
  obtain ⟨z, hz, ez⟩ := ll_some (((ii (sv sc (i + 2))).toInt64 <<< ((ii 32).toInt64 &&& 63)) ||| ((ii (sv sc (i + 3))).toInt64 &&& (4294967295 : Int64)))
  refine q_callV (y2 := m_Hou_nth) (i := 0) (ci := 11) (as := [.int (ii (sv sc (i + 1))), .long (ll z), .int (ii (sv sc (i + 4)))]) (st := []) (mc2 := 0) (ms2 := 0) d_Law_806 c_Law_117 hm ⟨_, rfl, rfl⟩ (by rw [← ez]; rfl) rfl (Nat.le_of_ble_eq_true rfl) (Nat.zero_le _) (Nat.zero_le _) ?_
  refine st_nth sv_R hz sv_R hI (fun mem1 v hm1 hv hc => ?_)
  obtain ⟨v, rfl⟩ := hv
  obtain ⟨fs1, hm1⟩ := hm1
  refine q_aload_n d_Law_809 rfl ?_
  refine q_read (k := 1) h0 (by decide) (by omega) hN d_Law_810 d_Law_811 d_Law_812 d_Law_813 d_Law_814 ?_
  refine q_read (k := 2) h0 (by decide) (by omega) hN d_Law_815 d_Law_816 d_Law_817 d_Law_818 d_Law_819 ?_
  refine q_i2l d_Law_820 ?_
  refine q_bipush (v := ii 32) d_Law_821 (by decide) ?_
  refine q_lshl d_Law_823 ?_
  refine q_read (k := 3) h0 (by decide) (by omega) hN d_Law_824 d_Law_825 d_Law_826 d_Law_827 d_Law_828 ?_
  refine q_i2l d_Law_829 ?_
  refine q_ldc2 d_Law_830 kl_Law_115 ?_
  refine q_land d_Law_833 ?_
  refine q_lor d_Law_834 ?_
  refine q_read (k := 4) h0 (by decide) (by omega) hN d_Law_835 d_Law_836 d_Law_837 d_Law_838 d_Law_839 ?_
  refine q_callV (y2 := m_Mod_nth) (i := 148) (ci := 12) (as := [.int (ii (sv sc (i + 1))), .long (ll z), .int (ii (sv sc (i + 4)))]) (st := [.int v]) (mc2 := 0) (ms2 := 0) d_Law_840 c_Law_121 hm1 ⟨_, rfl, rfl⟩ (by rw [← ez]; rfl) rfl (Nat.le_of_ble_eq_true rfl) (Nat.zero_le _) (Nat.zero_le _) (hc _ (fun mem2 hI2 => ?_))
  exact q_icmp_eq (t := 1103) d_Law_843 rfl (fun _ => q_less (by omega) (by omega) (kk mem2 hI2)) (fun h => absurd rfl h)
theorem lwc_25 {i : Int} (hI : INVm mem) (h0 : 0 ≤ i) (h1 : i + 6 ≤ N) (hN : N ≤ 3072) (hb1 : 8 ≤ bc) (hb2 : 941 ≤ bs) (kk : ∀ mem2, INVm mem2 → SX (LwE N sc) true m_Law (d + 93) 1103 (LL i) [] mem2 (bc - 8) (bs - 941) Q) : SX (LwE N sc) true m_Law (d + 93) 848 (LL i) [] mem bc bs Q := by
  obtain ⟨fs, hm⟩ := hI.m0
  refine q_aload_n d_Law_848 rfl ?_
  refine q_callV (y2 := m_Hou_rank) (i := 0) (ci := 11) (as := []) (st := []) (mc2 := 0) (ms2 := 0) d_Law_849 c_Law_122 hm ⟨_, rfl, rfl⟩ rfl rfl (Nat.le_of_ble_eq_true rfl) (Nat.zero_le _) (Nat.zero_le _) ?_
  refine st_rank  hI (fun mem1 v hm1 hv hc => ?_)
  obtain ⟨v, rfl⟩ := hv
  obtain ⟨fs1, hm1⟩ := hm1
  refine q_aload_n d_Law_852 rfl ?_
  refine q_callV (y2 := m_Mod_rank) (i := 148) (ci := 12) (as := []) (st := [.long v]) (mc2 := 0) (ms2 := 0) d_Law_853 c_Law_126 hm1 ⟨_, rfl, rfl⟩ rfl rfl (Nat.le_of_ble_eq_true rfl) (Nat.zero_le _) (Nat.zero_le _) (hc _ (fun mem2 hI2 => ?_))
  refine q_lcmp d_Law_856 ?_
  exact q_if_eq (t := 1103) d_Law_857 rfl (fun _ => q_less (by omega) (by omega) (kk mem2 hI2)) (fun h => absurd (lg_self v) h)
theorem lwc_26 {i : Int} (hI : INVm mem) (h0 : 0 ≤ i) (h1 : i + 6 ≤ N) (hN : N ≤ 3072) (hb1 : 8 ≤ bc) (hb2 : 941 ≤ bs) (kk : ∀ mem2, INVm mem2 → SX (LwE N sc) true m_Law (d + 93) 1103 (LL i) [] mem2 (bc - 8) (bs - 941) Q) : SX (LwE N sc) true m_Law (d + 93) 862 (LL i) [] mem bc bs Q := by
  obtain ⟨fs, hm⟩ := hI.m0
  refine q_aload_n d_Law_862 rfl ?_
  refine q_read (k := 1) h0 (by decide) (by omega) hN d_Law_863 d_Law_864 d_Law_865 d_Law_866 d_Law_867 ?_
  refine q_callV (y2 := m_Hou_game) (i := 0) (ci := 11) (as := [.int (ii (sv sc (i + 1)))]) (st := []) (mc2 := 0) (ms2 := 0) d_Law_868 c_Law_127 hm ⟨_, rfl, rfl⟩ rfl rfl (Nat.le_of_ble_eq_true rfl) (Nat.zero_le _) (Nat.zero_le _) ?_
  refine st_game sv_R hI (fun mem1 v hm1 hv hc => ?_)
  obtain ⟨v, rfl⟩ := hv
  obtain ⟨fs1, hm1⟩ := hm1
  refine q_aload_n d_Law_871 rfl ?_
  refine q_read (k := 1) h0 (by decide) (by omega) hN d_Law_872 d_Law_873 d_Law_874 d_Law_875 d_Law_876 ?_
  refine q_callV (y2 := m_Mod_game) (i := 148) (ci := 12) (as := [.int (ii (sv sc (i + 1)))]) (st := [.int v]) (mc2 := 0) (ms2 := 0) d_Law_877 c_Law_130 hm1 ⟨_, rfl, rfl⟩ rfl rfl (Nat.le_of_ble_eq_true rfl) (Nat.zero_le _) (Nat.zero_le _) (hc _ (fun mem2 hI2 => ?_))
  exact q_icmp_eq (t := 1103) d_Law_880 rfl (fun _ => q_less (by omega) (by omega) (kk mem2 hI2)) (fun h => absurd rfl h)
theorem lwc_27 {i : Int} (hI : INVm mem) (h0 : 0 ≤ i) (h1 : i + 6 ≤ N) (hN : N ≤ 3072) (hb1 : 8 ≤ bc) (hb2 : 941 ≤ bs) (kk : ∀ mem2, INVm mem2 → SX (LwE N sc) true m_Law (d + 93) 1103 (LL i) [] mem2 (bc - 8) (bs - 941) Q) : SX (LwE N sc) true m_Law (d + 93) 885 (LL i) [] mem bc bs Q := by
  obtain ⟨fs, hm⟩ := hI.m0
  refine q_aload_n d_Law_885 rfl ?_
  refine q_read (k := 1) h0 (by decide) (by omega) hN d_Law_886 d_Law_887 d_Law_888 d_Law_889 d_Law_890 ?_
  refine q_read (k := 2) h0 (by decide) (by omega) hN d_Law_891 d_Law_892 d_Law_893 d_Law_894 d_Law_895 ?_
  refine q_callV (y2 := m_Hou_hide) (i := 0) (ci := 11) (as := [.int (ii (sv sc (i + 1))), .int (ii (sv sc (i + 2)))]) (st := []) (mc2 := 0) (ms2 := 0) d_Law_896 c_Law_131 hm ⟨_, rfl, rfl⟩ rfl rfl (Nat.le_of_ble_eq_true rfl) (Nat.zero_le _) (Nat.zero_le _) ?_
  refine st_hide sv_R sv_R hI (fun mem1 v hm1 hv hc => ?_)
  obtain ⟨v, rfl⟩ := hv
  obtain ⟨fs1, hm1⟩ := hm1
  refine q_aload_n d_Law_899 rfl ?_
  refine q_read (k := 1) h0 (by decide) (by omega) hN d_Law_900 d_Law_901 d_Law_902 d_Law_903 d_Law_904 ?_
  refine q_read (k := 2) h0 (by decide) (by omega) hN d_Law_905 d_Law_906 d_Law_907 d_Law_908 d_Law_909 ?_
  refine q_callV (y2 := m_Mod_hide) (i := 148) (ci := 12) (as := [.int (ii (sv sc (i + 1))), .int (ii (sv sc (i + 2)))]) (st := [.int v]) (mc2 := 0) (ms2 := 0) d_Law_910 c_Law_134 hm1 ⟨_, rfl, rfl⟩ rfl rfl (Nat.le_of_ble_eq_true rfl) (Nat.zero_le _) (Nat.zero_le _) (hc _ (fun mem2 hI2 => ?_))
  exact q_icmp_eq (t := 1103) d_Law_913 rfl (fun _ => q_less (by omega) (by omega) (kk mem2 hI2)) (fun h => absurd rfl h)
theorem lwc_28 {i : Int} (hI : INVm mem) (h0 : 0 ≤ i) (h1 : i + 6 ≤ N) (hN : N ≤ 3072) (hb1 : 8 ≤ bc) (hb2 : 941 ≤ bs) (kk : ∀ mem2, INVm mem2 → SX (LwE N sc) true m_Law (d + 93) 1103 (LL i) [] mem2 (bc - 8) (bs - 941) Q) : SX (LwE N sc) true m_Law (d + 93) 918 (LL i) [] mem bc bs Q := by
  obtain ⟨fs, hm⟩ := hI.m0
  refine q_aload_n d_Law_918 rfl ?_
  refine q_read (k := 1) h0 (by decide) (by omega) hN d_Law_919 d_Law_920 d_Law_921 d_Law_922 d_Law_923 ?_
  refine q_callV (y2 := m_Hou_likely) (i := 0) (ci := 11) (as := [.int (ii (sv sc (i + 1)))]) (st := []) (mc2 := 0) (ms2 := 0) d_Law_924 c_Law_135 hm ⟨_, rfl, rfl⟩ rfl rfl (Nat.le_of_ble_eq_true rfl) (Nat.zero_le _) (Nat.zero_le _) ?_
  refine st_likely sv_R hI (fun mem1 v hm1 hv hc => ?_)
  obtain ⟨v, rfl⟩ := hv
  obtain ⟨fs1, hm1⟩ := hm1
  refine q_aload_n d_Law_927 rfl ?_
  refine q_read (k := 1) h0 (by decide) (by omega) hN d_Law_928 d_Law_929 d_Law_930 d_Law_931 d_Law_932 ?_
  refine q_callV (y2 := m_Mod_likely) (i := 148) (ci := 12) (as := [.int (ii (sv sc (i + 1)))]) (st := [.long v]) (mc2 := 0) (ms2 := 0) d_Law_933 c_Law_139 hm1 ⟨_, rfl, rfl⟩ rfl rfl (Nat.le_of_ble_eq_true rfl) (Nat.zero_le _) (Nat.zero_le _) (hc _ (fun mem2 hI2 => ?_))
  refine q_lcmp d_Law_936 ?_
  exact q_if_eq (t := 1103) d_Law_937 rfl (fun _ => q_less (by omega) (by omega) (kk mem2 hI2)) (fun h => absurd (lg_self v) h)
theorem lwc_29 {i : Int} (hI : INVm mem) (h0 : 0 ≤ i) (h1 : i + 6 ≤ N) (hN : N ≤ 3072) (hb1 : 8 ≤ bc) (hb2 : 941 ≤ bs) (kk : ∀ mem2, INVm mem2 → SX (LwE N sc) true m_Law (d + 93) 1103 (LL i) [] mem2 (bc - 8) (bs - 941) Q) : SX (LwE N sc) true m_Law (d + 93) 942 (LL i) [] mem bc bs Q := by
  obtain ⟨fs, hm⟩ := hI.m0
  refine q_aload_n d_Law_942 rfl ?_
  refine q_read (k := 1) h0 (by decide) (by omega) hN d_Law_943 d_Law_944 d_Law_945 d_Law_946 d_Law_947 ?_
  refine q_callV (y2 := m_Hou_compare) (i := 0) (ci := 11) (as := [.int (ii (sv sc (i + 1)))]) (st := []) (mc2 := 0) (ms2 := 0) d_Law_948 c_Law_140 hm ⟨_, rfl, rfl⟩ rfl rfl (Nat.le_of_ble_eq_true rfl) (Nat.zero_le _) (Nat.zero_le _) ?_
  refine st_compare sv_R hI (fun mem1 v hm1 hv hc => ?_)
  obtain ⟨v, rfl⟩ := hv
  obtain ⟨fs1, hm1⟩ := hm1
  refine q_aload_n d_Law_951 rfl ?_
  refine q_read (k := 1) h0 (by decide) (by omega) hN d_Law_952 d_Law_953 d_Law_954 d_Law_955 d_Law_956 ?_
  refine q_callV (y2 := m_Mod_compare) (i := 148) (ci := 12) (as := [.int (ii (sv sc (i + 1)))]) (st := [.int v]) (mc2 := 0) (ms2 := 0) d_Law_957 c_Law_143 hm1 ⟨_, rfl, rfl⟩ rfl rfl (Nat.le_of_ble_eq_true rfl) (Nat.zero_le _) (Nat.zero_le _) (hc _ (fun mem2 hI2 => ?_))
  exact q_icmp_eq (t := 1103) d_Law_960 rfl (fun _ => q_less (by omega) (by omega) (kk mem2 hI2)) (fun h => absurd rfl h)
theorem lwc_30 {i : Int} (hI : INVm mem) (h0 : 0 ≤ i) (h1 : i + 6 ≤ N) (hN : N ≤ 3072) (hb1 : 8 ≤ bc) (hb2 : 941 ≤ bs) (kk : ∀ mem2, INVm mem2 → SX (LwE N sc) true m_Law (d + 93) 1103 (LL i) [] mem2 (bc - 8) (bs - 941) Q) : SX (LwE N sc) true m_Law (d + 93) 965 (LL i) [] mem bc bs Q := by
  obtain ⟨fs, hm⟩ := hI.m0
  refine q_aload_n d_Law_965 rfl ?_
  refine q_read (k := 1) h0 (by decide) (by omega) hN d_Law_966 d_Law_967 d_Law_968 d_Law_969 d_Law_970 ?_
  refine q_read (k := 2) h0 (by decide) (by omega) hN d_Law_971 d_Law_972 d_Law_973 d_Law_974 d_Law_975 ?_
  refine q_callV (y2 := m_Hou_readers) (i := 0) (ci := 11) (as := [.int (ii (sv sc (i + 1))), .int (ii (sv sc (i + 2)))]) (st := []) (mc2 := 0) (ms2 := 0) d_Law_976 c_Law_144 hm ⟨_, rfl, rfl⟩ rfl rfl (Nat.le_of_ble_eq_true rfl) (Nat.zero_le _) (Nat.zero_le _) ?_
  refine st_readers sv_R sv_R hI (fun mem1 v hm1 hv hc => ?_)
  obtain ⟨v, rfl⟩ := hv
  obtain ⟨fs1, hm1⟩ := hm1
  refine q_aload_n d_Law_979 rfl ?_
  refine q_read (k := 1) h0 (by decide) (by omega) hN d_Law_980 d_Law_981 d_Law_982 d_Law_983 d_Law_984 ?_
  refine q_read (k := 2) h0 (by decide) (by omega) hN d_Law_985 d_Law_986 d_Law_987 d_Law_988 d_Law_989 ?_
  refine q_callV (y2 := m_Mod_readers) (i := 148) (ci := 12) (as := [.int (ii (sv sc (i + 1))), .int (ii (sv sc (i + 2)))]) (st := [.int v]) (mc2 := 0) (ms2 := 0) d_Law_990 c_Law_147 hm1 ⟨_, rfl, rfl⟩ rfl rfl (Nat.le_of_ble_eq_true rfl) (Nat.zero_le _) (Nat.zero_le _) (hc _ (fun mem2 hI2 => ?_))
  exact q_icmp_eq (t := 1103) d_Law_993 rfl (fun _ => q_less (by omega) (by omega) (kk mem2 hI2)) (fun h => absurd rfl h)
theorem lwc_31 {i : Int} (hI : INVm mem) (h0 : 0 ≤ i) (h1 : i + 6 ≤ N) (hN : N ≤ 3072) (hb1 : 8 ≤ bc) (hb2 : 941 ≤ bs) (kk : ∀ mem2, INVm mem2 → SX (LwE N sc) true m_Law (d + 93) 1103 (LL i) [] mem2 (bc - 8) (bs - 941) Q) : SX (LwE N sc) true m_Law (d + 93) 998 (LL i) [] mem bc bs Q := by
  obtain ⟨fs, hm⟩ := hI.m0
  refine q_aload_n d_Law_998 rfl ?_
  refine q_read (k := 1) h0 (by decide) (by omega) hN d_Law_999 d_Law_1000 d_Law_1001 d_Law_1002 d_Law_1003 ?_
  refine q_callV (y2 := m_Hou_drawn) (i := 0) (ci := 11) (as := [.int (ii (sv sc (i + 1)))]) (st := []) (mc2 := 0) (ms2 := 0) d_Law_1004 c_Law_148 hm ⟨_, rfl, rfl⟩ rfl rfl (Nat.le_of_ble_eq_true rfl) (Nat.zero_le _) (Nat.zero_le _) ?_
  refine st_drawn sv_R hI (fun mem1 v hm1 hv hc => ?_)
  obtain ⟨v, rfl⟩ := hv
  obtain ⟨fs1, hm1⟩ := hm1
  refine q_aload_n d_Law_1007 rfl ?_
  refine q_read (k := 1) h0 (by decide) (by omega) hN d_Law_1008 d_Law_1009 d_Law_1010 d_Law_1011 d_Law_1012 ?_
  refine q_callV (y2 := m_Mod_drawn) (i := 148) (ci := 12) (as := [.int (ii (sv sc (i + 1)))]) (st := [.int v]) (mc2 := 0) (ms2 := 0) d_Law_1013 c_Law_151 hm1 ⟨_, rfl, rfl⟩ rfl rfl (Nat.le_of_ble_eq_true rfl) (Nat.zero_le _) (Nat.zero_le _) (hc _ (fun mem2 hI2 => ?_))
  exact q_icmp_eq (t := 1103) d_Law_1016 rfl (fun _ => q_less (by omega) (by omega) (kk mem2 hI2)) (fun h => absurd rfl h)
theorem lwc_32 {i : Int} (hI : INVm mem) (h0 : 0 ≤ i) (h1 : i + 6 ≤ N) (hN : N ≤ 3072) (hb1 : 8 ≤ bc) (hb2 : 941 ≤ bs) (kk : ∀ mem2, INVm mem2 → SX (LwE N sc) true m_Law (d + 93) 1103 (LL i) [] mem2 (bc - 8) (bs - 941) Q) : SX (LwE N sc) true m_Law (d + 93) 1021 (LL i) [] mem bc bs Q := by
  obtain ⟨fs, hm⟩ := hI.m0
  refine q_aload_n d_Law_1021 rfl ?_
  refine q_read (k := 1) h0 (by decide) (by omega) hN d_Law_1022 d_Law_1023 d_Law_1024 d_Law_1025 d_Law_1026 ?_
  refine q_callV (y2 := m_Hou_image) (i := 0) (ci := 11) (as := [.int (ii (sv sc (i + 1)))]) (st := []) (mc2 := 0) (ms2 := 0) d_Law_1027 c_Law_152 hm ⟨_, rfl, rfl⟩ rfl rfl (Nat.le_of_ble_eq_true rfl) (Nat.zero_le _) (Nat.zero_le _) ?_
  refine st_image sv_R hI (fun mem1 v hm1 hv hc => ?_)
  obtain ⟨v, rfl⟩ := hv
  obtain ⟨fs1, hm1⟩ := hm1
  refine q_aload_n d_Law_1030 rfl ?_
  refine q_read (k := 1) h0 (by decide) (by omega) hN d_Law_1031 d_Law_1032 d_Law_1033 d_Law_1034 d_Law_1035 ?_
  refine q_callV (y2 := m_Mod_image) (i := 148) (ci := 12) (as := [.int (ii (sv sc (i + 1)))]) (st := [.int v]) (mc2 := 0) (ms2 := 0) d_Law_1036 c_Law_155 hm1 ⟨_, rfl, rfl⟩ rfl rfl (Nat.le_of_ble_eq_true rfl) (Nat.zero_le _) (Nat.zero_le _) (hc _ (fun mem2 hI2 => ?_))
  exact q_icmp_eq (t := 1103) d_Law_1039 rfl (fun _ => q_less (by omega) (by omega) (kk mem2 hI2)) (fun h => absurd rfl h)
theorem lwc_33 {i : Int} (hI : INVm mem) (h0 : 0 ≤ i) (h1 : i + 6 ≤ N) (hN : N ≤ 3072) (hb1 : 8 ≤ bc) (hb2 : 941 ≤ bs) (kk : ∀ mem2, INVm mem2 → SX (LwE N sc) true m_Law (d + 93) 1103 (LL i) [] mem2 (bc - 8) (bs - 941) Q) : SX (LwE N sc) true m_Law (d + 93) 1044 (LL i) [] mem bc bs Q := by
  obtain ⟨fs, hm⟩ := hI.m0
  refine q_aload_n d_Law_1044 rfl ?_
  refine q_read (k := 1) h0 (by decide) (by omega) hN d_Law_1045 d_Law_1046 d_Law_1047 d_Law_1048 d_Law_1049 ?_
  refine q_callV (y2 := m_Hou_back) (i := 0) (ci := 11) (as := [.int (ii (sv sc (i + 1)))]) (st := []) (mc2 := 0) (ms2 := 0) d_Law_1050 c_Law_156 hm ⟨_, rfl, rfl⟩ rfl rfl (Nat.le_of_ble_eq_true rfl) (Nat.zero_le _) (Nat.zero_le _) ?_
  refine st_back sv_R hI (fun mem1 v hm1 hv hc => ?_)
  obtain ⟨v, rfl⟩ := hv
  obtain ⟨fs1, hm1⟩ := hm1
  refine q_aload_n d_Law_1053 rfl ?_
  refine q_read (k := 1) h0 (by decide) (by omega) hN d_Law_1054 d_Law_1055 d_Law_1056 d_Law_1057 d_Law_1058 ?_
  refine q_callV (y2 := m_Mod_back) (i := 148) (ci := 12) (as := [.int (ii (sv sc (i + 1)))]) (st := [.int v]) (mc2 := 0) (ms2 := 0) d_Law_1059 c_Law_159 hm1 ⟨_, rfl, rfl⟩ rfl rfl (Nat.le_of_ble_eq_true rfl) (Nat.zero_le _) (Nat.zero_le _) (hc _ (fun mem2 hI2 => ?_))
  exact q_icmp_eq (t := 1103) d_Law_1062 rfl (fun _ => q_less (by omega) (by omega) (kk mem2 hI2)) (fun h => absurd rfl h)
theorem lwc_34 {i : Int} (hI : INVm mem) (h0 : 0 ≤ i) (h1 : i + 6 ≤ N) (hN : N ≤ 3072) (hb1 : 8 ≤ bc) (hb2 : 941 ≤ bs) (kk : ∀ mem2, INVm mem2 → SX (LwE N sc) true m_Law (d + 93) 1103 (LL i) [] mem2 (bc - 8) (bs - 941) Q) : SX (LwE N sc) true m_Law (d + 93) 1067 (LL i) [] mem bc bs Q := by
  obtain ⟨fs, hm⟩ := hI.m0
  refine q_aload_n d_Law_1067 rfl ?_
  refine q_read (k := 1) h0 (by decide) (by omega) hN d_Law_1068 d_Law_1069 d_Law_1070 d_Law_1071 d_Law_1072 ?_
  refine q_callV (y2 := m_Hou_count) (i := 0) (ci := 11) (as := [.int (ii (sv sc (i + 1)))]) (st := []) (mc2 := 0) (ms2 := 0) d_Law_1073 c_Law_160 hm ⟨_, rfl, rfl⟩ rfl rfl (Nat.le_of_ble_eq_true rfl) (Nat.zero_le _) (Nat.zero_le _) ?_
  refine st_count sv_R hI (fun mem1 v hm1 hv hc => ?_)
  obtain ⟨v, rfl⟩ := hv
  obtain ⟨fs1, hm1⟩ := hm1
  refine q_aload_n d_Law_1076 rfl ?_
  refine q_read (k := 1) h0 (by decide) (by omega) hN d_Law_1077 d_Law_1078 d_Law_1079 d_Law_1080 d_Law_1081 ?_
  refine q_callV (y2 := m_Mod_count) (i := 148) (ci := 12) (as := [.int (ii (sv sc (i + 1)))]) (st := [.int v]) (mc2 := 0) (ms2 := 0) d_Law_1082 c_Law_163 hm1 ⟨_, rfl, rfl⟩ rfl rfl (Nat.le_of_ble_eq_true rfl) (Nat.zero_le _) (Nat.zero_le _) (hc _ (fun mem2 hI2 => ?_))
  exact q_icmp_eq (t := 1103) d_Law_1085 rfl (fun _ => q_less (by omega) (by omega) (kk mem2 hI2)) (fun h => absurd rfl h)
theorem lwc_35 {i : Int} (hI : INVm mem) (h0 : 0 ≤ i) (h1 : i + 6 ≤ N) (hN : N ≤ 3072) (hb1 : 8 ≤ bc) (hb2 : 941 ≤ bs) (kk : ∀ mem2, INVm mem2 → SX (LwE N sc) true m_Law (d + 93) 1103 (LL i) [] mem2 (bc - 8) (bs - 941) Q) : SX (LwE N sc) true m_Law (d + 93) 1090 (LL i) [] mem bc bs Q := by
  obtain ⟨fs, hm⟩ := hI.m0
  refine q_aload_n d_Law_1090 rfl ?_
  refine q_callV (y2 := m_Hou_status) (i := 0) (ci := 11) (as := []) (st := []) (mc2 := 0) (ms2 := 0) d_Law_1091 c_Law_164 hm ⟨_, rfl, rfl⟩ rfl rfl (Nat.le_of_ble_eq_true rfl) (Nat.zero_le _) (Nat.zero_le _) ?_
  refine st_status  hI (fun mem1 v hm1 hv hc => ?_)
  obtain ⟨v, rfl⟩ := hv
  obtain ⟨fs1, hm1⟩ := hm1
  refine q_aload_n d_Law_1094 rfl ?_
  refine q_callV (y2 := m_Mod_status) (i := 148) (ci := 12) (as := []) (st := [.int v]) (mc2 := 0) (ms2 := 0) d_Law_1095 c_Law_167 hm1 ⟨_, rfl, rfl⟩ rfl rfl (Nat.le_of_ble_eq_true rfl) (Nat.zero_le _) (Nat.zero_le _) (hc _ (fun mem2 hI2 => ?_))
  exact q_icmp_eq (t := 1103) d_Law_1098 rfl (fun _ => q_less (by omega) (by omega) (kk mem2 hI2)) (fun h => absurd rfl h)
end LWC
