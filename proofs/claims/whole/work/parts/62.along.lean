theorem sj_ga {g : Bool} {d : Nat} {Q : List xM → Option Value → Prop} {i0 i6 i8 i9 i10 i13 i14 i18 i19 i20 i21 i23 i24 i27 i28 i33 i42 i43 i44 i45 i46 i47 i48 i51 i52 : Int} {x1 x2 x3 x4 x5 x7 x11 x12 x15 x16 x17 x26 x29 x30 x31 x32 x34 x35 x36 x37 x38 x39 x40 x41 x49 x50 : Int → Int} (hn0 : 0 ≤ x2 0) (hn1 : x2 0 ≤ 20) (hs : ∀ j, 0 ≤ j → j < x2 0 → 0 ≤ x2 (1 + j) ∧ x2 (1 + j) ≤ 11) (hC : ∀ k, 0 ≤ k → k < 2800 → 0 ≤ x2 (33 + k) ∧ x2 (33 + k) ≤ 400) (e0 : 0 ≤ i23) (e1 : i23 ≤ 2800) {live g2 g3 g4 tm tv tb : Int} (hl : live = 0 ∨ live = 1) (hg2 : 0 ≤ g2 ∧ g2 ≤ 2800) (hg3 : 0 ≤ g3 ∧ g3 ≤ 2800) (hg4 : 0 ≤ g4 ∧ g4 ≤ 2800) (hti : (¬ (cdA x2 i23) g2 = 27 ∧ tm = 1 ∧ g3 = g2) ∨ ((cdA x2 i23) g2 = 27 ∧ g2 + 1 ≤ 2799 ∧ tm = x2 (2833 + (g2 + 1)) ∧ g3 = g2 + 2)) (hif : Hd ((¬ (cdA x2 i23) g3 = 5 ∧ tv = 1 ∧ tb = 0 ∧ g4 = g3) ∨ ((cdA x2 i23) g3 = 5 ∧ (tsE (cdA x2 i23) (sE (cdA x2 i23) (vlA x2) (wvM 1 x26 x2 i27 i28) 1 9) 9) live (g3 + 1) 0 = some (tv, g4, tb) ∧ b01 tv ∧ b01 tb))) (hQ : ∀ y29 y30, Q (MM i0 i6 i8 i9 i10 i13 i14 i18 i19 i20 i21 (g4 + 1) i23 tb 1 i27 i28 i33 i42 i43 tm i45 i46 i47 (if tv = 1 ∧ tb = 0 then 1 else 0) i51 i52 x1 x2 x3 x4 x5 x7 x11 x12 x15 x16 x17 x26 y29 y30 x31 x32 x34 x35 x36 x37 x38 x39 x40 x41 x49 x50) none) : SJ g m_Mod_goesAlong (d + 87) 143 [some (.ref 0), some (.int (ii i23)), some (.int (ii live)), none, none] [] (MM i0 i6 i8 i9 i10 i13 i14 i18 i19 i20 i21 g2 i23 i24 1 i27 i28 i33 i42 i43 i44 i45 i46 i47 i48 i51 i52 x1 x2 x3 x4 x5 x7 x11 x12 x15 x16 x17 x26 x29 x30 x31 x32 x34 x35 x36 x37 x38 x39 x40 x41 x49 x50) 0 0 Q := by
  refine j_aload_n d_Mod_goesAlong_143 rfl ?_
  refine z_iconst d_Mod_goesAlong_144 ?_
  refine mp_timesOf f_Mod_485 d_Mod_goesAlong_145 ?_
  refine j_aload_n d_Mod_goesAlong_148 rfl ?_
  refine z_bipush d_Mod_goesAlong_149 (by decide) ?_
  refine v_call1 d_Mod_goesAlong_151 c_Mod_273 rfl ⟨_, rfl, rfl⟩ (Nat.le_of_ble_eq_true rfl) (t_Mod_passes0 hC e0 e1 (by omega) (by omega) (by omega) (fun h151 => ?_) (fun h151 => ?_))
  · refine z_if_eq (t := 184) d_Mod_goesAlong_154 (by decide) (by first | omega | exact hw _ | exact hx _ _ | assumption) (fun h => absurd h (by decide)) (fun _ => ?_)
    obtain ⟨q1, q2, rfl, rfl⟩ := hti.resolve_left (fun q => q.1 h151)
    refine j_aload_n d_Mod_goesAlong_157 rfl ?_
    refine j_aload_n d_Mod_goesAlong_158 rfl ?_
    refine mg_kept f_Mod_32 d_Mod_goesAlong_159 ?_
    refine z_sipush d_Mod_goesAlong_162 (by decide) ?_
    refine j_aload_n d_Mod_goesAlong_165 rfl ?_
    refine mg_go f_Mod_249 d_Mod_goesAlong_166 ?_
    refine z_iadd d_Mod_goesAlong_169 ?_
    refine ml_kept d_Mod_goesAlong_170 (by omega) (by omega) ?_
    refine mp_timesOf f_Mod_485 d_Mod_goesAlong_171 ?_
    refine j_aload_n d_Mod_goesAlong_174 rfl ?_
    refine j_dup d_Mod_goesAlong_175 rfl ?_
    refine mg_go f_Mod_249 d_Mod_goesAlong_176 ?_
    refine z_iconst d_Mod_goesAlong_179 ?_
    refine z_iadd d_Mod_goesAlong_180 ?_
    refine mp_go f_Mod_249 d_Mod_goesAlong_181 ?_
    rw [show g2 + 1 + 1 = g2 + 2 by omega]
    refine j_aload_n d_Mod_goesAlong_184 rfl ?_
    refine z_iconst d_Mod_goesAlong_185 ?_
    refine mp_broken f_Mod_259 d_Mod_goesAlong_186 (by first | exact Or.inl rfl | exact Or.inr rfl | assumption | omega) ?_
    refine j_aload_n d_Mod_goesAlong_189 rfl ?_
    refine j_aload_n d_Mod_goesAlong_190 rfl ?_
    refine z_iconst d_Mod_goesAlong_191 ?_
    refine v_call1 d_Mod_goesAlong_192 c_Mod_273 rfl ⟨_, rfl, rfl⟩ (Nat.le_of_ble_eq_true rfl) (t_Mod_passes0 hC e0 e1 (by omega) (by omega) (by omega) (fun h192 => ?_) (fun h192 => ?_))
    · refine z_if_eq (t := 206) d_Mod_goesAlong_195 (by decide) (by first | omega | exact hw _ | exact hx _ _ | assumption) (fun h => absurd h (by decide)) (fun _ => ?_)
      obtain ⟨q3, hT1, hv1, hb1⟩ := (Hd.out hif).resolve_left (fun q => q.1 h192)
      refine j_aload_n d_Mod_goesAlong_198 rfl ?_
      refine j_iload_n d_Mod_goesAlong_199 rfl ?_
      refine v_call1 d_Mod_goesAlong_200 c_Mod_306 rfl ⟨_, rfl, rfl⟩ (Nat.le_of_ble_eq_true rfl) (testsOK (d := d) hn0 hn1 hs hC e0 e1 (Or.inr rfl) 9 live _ 0 _ _ _ _ _ _ hT1 hl (Or.inl rfl) (fun y29 y30 => ?_))
      refine z_if_eq (t := 210) d_Mod_goesAlong_203 (by decide) (by first | omega | exact hw _ | exact hx _ _ | assumption) (fun h203 => ?_) (fun h203 => ?_)
      · refine z_iconst d_Mod_goesAlong_210 ?_
        refine mp_testIs f_Mod_488 d_Mod_goesAlong_211 (by first | exact Or.inl rfl | exact Or.inr rfl | assumption | omega) ?_
        refine j_aload_n d_Mod_goesAlong_214 rfl ?_
        refine j_aload_n d_Mod_goesAlong_215 rfl ?_
        refine mg_testIs f_Mod_488 d_Mod_goesAlong_216 ?_
        refine z_if_eq (t := 233) d_Mod_goesAlong_219 (by decide) (by first | omega | exact hw _ | exact hx _ _ | assumption) (fun h219 => ?_) (fun h219 => ?_)
        · refine z_iconst d_Mod_goesAlong_233 ?_
          refine mp_testIs f_Mod_488 d_Mod_goesAlong_234 (by first | exact Or.inl rfl | exact Or.inr rfl | assumption | omega) ?_
          refine j_aload_n d_Mod_goesAlong_237 rfl ?_
          refine j_dup d_Mod_goesAlong_238 rfl ?_
          refine mg_go f_Mod_249 d_Mod_goesAlong_239 ?_
          refine z_iconst d_Mod_goesAlong_242 ?_
          refine z_iadd d_Mod_goesAlong_243 ?_
          refine mp_go f_Mod_249 d_Mod_goesAlong_244 ?_
          refine j_return rfl d_Mod_goesAlong_247 ?_
          first
          | (exfalso; omega)
          | (have h1_ : (if tv = 1 ∧ tb = 0 then (1 : Int) else 0) = 1 := if_pos (by omega)
             rw [h1_] at hQ
             exact hQ _ _)
          | (have h0_ : (if tv = 1 ∧ tb = 0 then (1 : Int) else 0) = 0 := if_neg (by omega)
             rw [h0_] at hQ
             exact hQ _ _)
          | exact hQ _ _
        · refine j_aload_n d_Mod_goesAlong_222 rfl ?_
          refine mg_broken f_Mod_259 d_Mod_goesAlong_223 ?_
          refine z_if_ne (t := 233) d_Mod_goesAlong_226 (by decide) (by first | omega | exact hw _ | exact hx _ _ | assumption) (fun h226 => ?_) (fun h226 => ?_)
          · refine z_iconst d_Mod_goesAlong_233 ?_
            refine mp_testIs f_Mod_488 d_Mod_goesAlong_234 (by first | exact Or.inl rfl | exact Or.inr rfl | assumption | omega) ?_
            refine j_aload_n d_Mod_goesAlong_237 rfl ?_
            refine j_dup d_Mod_goesAlong_238 rfl ?_
            refine mg_go f_Mod_249 d_Mod_goesAlong_239 ?_
            refine z_iconst d_Mod_goesAlong_242 ?_
            refine z_iadd d_Mod_goesAlong_243 ?_
            refine mp_go f_Mod_249 d_Mod_goesAlong_244 ?_
            refine j_return rfl d_Mod_goesAlong_247 ?_
            first
            | (exfalso; omega)
            | (have h1_ : (if tv = 1 ∧ tb = 0 then (1 : Int) else 0) = 1 := if_pos (by omega)
               rw [h1_] at hQ
               exact hQ _ _)
            | (have h0_ : (if tv = 1 ∧ tb = 0 then (1 : Int) else 0) = 0 := if_neg (by omega)
               rw [h0_] at hQ
               exact hQ _ _)
            | exact hQ _ _
          · refine z_iconst d_Mod_goesAlong_229 ?_
            refine j_goto (t := 234) d_Mod_goesAlong_230 (by decide) ?_
            refine mp_testIs f_Mod_488 d_Mod_goesAlong_234 (by first | exact Or.inl rfl | exact Or.inr rfl | assumption | omega) ?_
            refine j_aload_n d_Mod_goesAlong_237 rfl ?_
            refine j_dup d_Mod_goesAlong_238 rfl ?_
            refine mg_go f_Mod_249 d_Mod_goesAlong_239 ?_
            refine z_iconst d_Mod_goesAlong_242 ?_
            refine z_iadd d_Mod_goesAlong_243 ?_
            refine mp_go f_Mod_249 d_Mod_goesAlong_244 ?_
            refine j_return rfl d_Mod_goesAlong_247 ?_
            first
            | (exfalso; omega)
            | (have h1_ : (if tv = 1 ∧ tb = 0 then (1 : Int) else 0) = 1 := if_pos (by omega)
               rw [h1_] at hQ
               exact hQ _ _)
            | (have h0_ : (if tv = 1 ∧ tb = 0 then (1 : Int) else 0) = 0 := if_neg (by omega)
               rw [h0_] at hQ
               exact hQ _ _)
            | exact hQ _ _
      · refine z_iconst d_Mod_goesAlong_206 ?_
        refine j_goto (t := 211) d_Mod_goesAlong_207 (by decide) ?_
        refine mp_testIs f_Mod_488 d_Mod_goesAlong_211 (by first | exact Or.inl rfl | exact Or.inr rfl | assumption | omega) ?_
        refine j_aload_n d_Mod_goesAlong_214 rfl ?_
        refine j_aload_n d_Mod_goesAlong_215 rfl ?_
        refine mg_testIs f_Mod_488 d_Mod_goesAlong_216 ?_
        refine z_if_eq (t := 233) d_Mod_goesAlong_219 (by decide) (by first | omega | exact hw _ | exact hx _ _ | assumption) (fun h219 => ?_) (fun h219 => ?_)
        · refine z_iconst d_Mod_goesAlong_233 ?_
          refine mp_testIs f_Mod_488 d_Mod_goesAlong_234 (by first | exact Or.inl rfl | exact Or.inr rfl | assumption | omega) ?_
          refine j_aload_n d_Mod_goesAlong_237 rfl ?_
          refine j_dup d_Mod_goesAlong_238 rfl ?_
          refine mg_go f_Mod_249 d_Mod_goesAlong_239 ?_
          refine z_iconst d_Mod_goesAlong_242 ?_
          refine z_iadd d_Mod_goesAlong_243 ?_
          refine mp_go f_Mod_249 d_Mod_goesAlong_244 ?_
          refine j_return rfl d_Mod_goesAlong_247 ?_
          first
          | (exfalso; omega)
          | (have h1_ : (if tv = 1 ∧ tb = 0 then (1 : Int) else 0) = 1 := if_pos (by omega)
             rw [h1_] at hQ
             exact hQ _ _)
          | (have h0_ : (if tv = 1 ∧ tb = 0 then (1 : Int) else 0) = 0 := if_neg (by omega)
             rw [h0_] at hQ
             exact hQ _ _)
          | exact hQ _ _
        · refine j_aload_n d_Mod_goesAlong_222 rfl ?_
          refine mg_broken f_Mod_259 d_Mod_goesAlong_223 ?_
          refine z_if_ne (t := 233) d_Mod_goesAlong_226 (by decide) (by first | omega | exact hw _ | exact hx _ _ | assumption) (fun h226 => ?_) (fun h226 => ?_)
          · refine z_iconst d_Mod_goesAlong_233 ?_
            refine mp_testIs f_Mod_488 d_Mod_goesAlong_234 (by first | exact Or.inl rfl | exact Or.inr rfl | assumption | omega) ?_
            refine j_aload_n d_Mod_goesAlong_237 rfl ?_
            refine j_dup d_Mod_goesAlong_238 rfl ?_
            refine mg_go f_Mod_249 d_Mod_goesAlong_239 ?_
            refine z_iconst d_Mod_goesAlong_242 ?_
            refine z_iadd d_Mod_goesAlong_243 ?_
            refine mp_go f_Mod_249 d_Mod_goesAlong_244 ?_
            refine j_return rfl d_Mod_goesAlong_247 ?_
            first
            | (exfalso; omega)
            | (have h1_ : (if tv = 1 ∧ tb = 0 then (1 : Int) else 0) = 1 := if_pos (by omega)
               rw [h1_] at hQ
               exact hQ _ _)
            | (have h0_ : (if tv = 1 ∧ tb = 0 then (1 : Int) else 0) = 0 := if_neg (by omega)
               rw [h0_] at hQ
               exact hQ _ _)
            | exact hQ _ _
          · refine z_iconst d_Mod_goesAlong_229 ?_
            refine j_goto (t := 234) d_Mod_goesAlong_230 (by decide) ?_
            refine mp_testIs f_Mod_488 d_Mod_goesAlong_234 (by first | exact Or.inl rfl | exact Or.inr rfl | assumption | omega) ?_
            refine j_aload_n d_Mod_goesAlong_237 rfl ?_
            refine j_dup d_Mod_goesAlong_238 rfl ?_
            refine mg_go f_Mod_249 d_Mod_goesAlong_239 ?_
            refine z_iconst d_Mod_goesAlong_242 ?_
            refine z_iadd d_Mod_goesAlong_243 ?_
            refine mp_go f_Mod_249 d_Mod_goesAlong_244 ?_
            refine j_return rfl d_Mod_goesAlong_247 ?_
            first
            | (exfalso; omega)
            | (have h1_ : (if tv = 1 ∧ tb = 0 then (1 : Int) else 0) = 1 := if_pos (by omega)
               rw [h1_] at hQ
               exact hQ _ _)
            | (have h0_ : (if tv = 1 ∧ tb = 0 then (1 : Int) else 0) = 0 := if_neg (by omega)
               rw [h0_] at hQ
               exact hQ _ _)
            | exact hQ _ _
    · refine z_if_eq (t := 206) d_Mod_goesAlong_195 (by decide) (by first | omega | exact hw _ | exact hx _ _ | assumption) (fun _ => ?_) (fun h => absurd h (by decide))
      obtain ⟨q3, rfl, rfl, rfl⟩ := (Hd.out hif).resolve_right (fun q => h192 q.1)
      refine z_iconst d_Mod_goesAlong_206 ?_
      refine j_goto (t := 211) d_Mod_goesAlong_207 (by decide) ?_
      refine mp_testIs f_Mod_488 d_Mod_goesAlong_211 (by first | exact Or.inl rfl | exact Or.inr rfl | assumption | omega) ?_
      refine j_aload_n d_Mod_goesAlong_214 rfl ?_
      refine j_aload_n d_Mod_goesAlong_215 rfl ?_
      refine mg_testIs f_Mod_488 d_Mod_goesAlong_216 ?_
      refine z_if_eq (t := 233) d_Mod_goesAlong_219 (by decide) (by first | omega | exact hw _ | exact hx _ _ | assumption) (fun h219 => ?_) (fun h219 => ?_)
      · refine z_iconst d_Mod_goesAlong_233 ?_
        refine mp_testIs f_Mod_488 d_Mod_goesAlong_234 (by first | exact Or.inl rfl | exact Or.inr rfl | assumption | omega) ?_
        refine j_aload_n d_Mod_goesAlong_237 rfl ?_
        refine j_dup d_Mod_goesAlong_238 rfl ?_
        refine mg_go f_Mod_249 d_Mod_goesAlong_239 ?_
        refine z_iconst d_Mod_goesAlong_242 ?_
        refine z_iadd d_Mod_goesAlong_243 ?_
        refine mp_go f_Mod_249 d_Mod_goesAlong_244 ?_
        refine j_return rfl d_Mod_goesAlong_247 ?_
        first
        | (exfalso; omega)
        | (have h1_ : (if tv = 1 ∧ tb = 0 then (1 : Int) else 0) = 1 := if_pos (by omega)
           rw [h1_] at hQ
           exact hQ _ _)
        | (have h0_ : (if tv = 1 ∧ tb = 0 then (1 : Int) else 0) = 0 := if_neg (by omega)
           rw [h0_] at hQ
           exact hQ _ _)
        | exact hQ _ _
      · refine j_aload_n d_Mod_goesAlong_222 rfl ?_
        refine mg_broken f_Mod_259 d_Mod_goesAlong_223 ?_
        refine z_if_ne (t := 233) d_Mod_goesAlong_226 (by decide) (by first | omega | exact hw _ | exact hx _ _ | assumption) (fun h226 => ?_) (fun h226 => ?_)
        · refine z_iconst d_Mod_goesAlong_233 ?_
          refine mp_testIs f_Mod_488 d_Mod_goesAlong_234 (by first | exact Or.inl rfl | exact Or.inr rfl | assumption | omega) ?_
          refine j_aload_n d_Mod_goesAlong_237 rfl ?_
          refine j_dup d_Mod_goesAlong_238 rfl ?_
          refine mg_go f_Mod_249 d_Mod_goesAlong_239 ?_
          refine z_iconst d_Mod_goesAlong_242 ?_
          refine z_iadd d_Mod_goesAlong_243 ?_
          refine mp_go f_Mod_249 d_Mod_goesAlong_244 ?_
          refine j_return rfl d_Mod_goesAlong_247 ?_
          first
          | (exfalso; omega)
          | (have h1_ : (if tv = 1 ∧ tb = 0 then (1 : Int) else 0) = 1 := if_pos (by omega)
             rw [h1_] at hQ
             exact hQ _ _)
          | (have h0_ : (if tv = 1 ∧ tb = 0 then (1 : Int) else 0) = 0 := if_neg (by omega)
             rw [h0_] at hQ
             exact hQ _ _)
          | exact hQ _ _
        · refine z_iconst d_Mod_goesAlong_229 ?_
          refine j_goto (t := 234) d_Mod_goesAlong_230 (by decide) ?_
          refine mp_testIs f_Mod_488 d_Mod_goesAlong_234 (by first | exact Or.inl rfl | exact Or.inr rfl | assumption | omega) ?_
          refine j_aload_n d_Mod_goesAlong_237 rfl ?_
          refine j_dup d_Mod_goesAlong_238 rfl ?_
          refine mg_go f_Mod_249 d_Mod_goesAlong_239 ?_
          refine z_iconst d_Mod_goesAlong_242 ?_
          refine z_iadd d_Mod_goesAlong_243 ?_
          refine mp_go f_Mod_249 d_Mod_goesAlong_244 ?_
          refine j_return rfl d_Mod_goesAlong_247 ?_
          first
          | (exfalso; omega)
          | (have h1_ : (if tv = 1 ∧ tb = 0 then (1 : Int) else 0) = 1 := if_pos (by omega)
             rw [h1_] at hQ
             exact hQ _ _)
          | (have h0_ : (if tv = 1 ∧ tb = 0 then (1 : Int) else 0) = 0 := if_neg (by omega)
             rw [h0_] at hQ
             exact hQ _ _)
          | exact hQ _ _
  · refine z_if_eq (t := 184) d_Mod_goesAlong_154 (by decide) (by first | omega | exact hw _ | exact hx _ _ | assumption) (fun _ => ?_) (fun h => absurd h (by decide))
    obtain ⟨q1, rfl, rfl⟩ := hti.resolve_right (fun q => h151 q.1)
    refine j_aload_n d_Mod_goesAlong_184 rfl ?_
    refine z_iconst d_Mod_goesAlong_185 ?_
    refine mp_broken f_Mod_259 d_Mod_goesAlong_186 (by first | exact Or.inl rfl | exact Or.inr rfl | assumption | omega) ?_
    refine j_aload_n d_Mod_goesAlong_189 rfl ?_
    refine j_aload_n d_Mod_goesAlong_190 rfl ?_
    refine z_iconst d_Mod_goesAlong_191 ?_
    refine v_call1 d_Mod_goesAlong_192 c_Mod_273 rfl ⟨_, rfl, rfl⟩ (Nat.le_of_ble_eq_true rfl) (t_Mod_passes0 hC e0 e1 (by omega) (by omega) (by omega) (fun h192 => ?_) (fun h192 => ?_))
    · refine z_if_eq (t := 206) d_Mod_goesAlong_195 (by decide) (by first | omega | exact hw _ | exact hx _ _ | assumption) (fun h => absurd h (by decide)) (fun _ => ?_)
      obtain ⟨q3, hT1, hv1, hb1⟩ := (Hd.out hif).resolve_left (fun q => q.1 h192)
      refine j_aload_n d_Mod_goesAlong_198 rfl ?_
      refine j_iload_n d_Mod_goesAlong_199 rfl ?_
      refine v_call1 d_Mod_goesAlong_200 c_Mod_306 rfl ⟨_, rfl, rfl⟩ (Nat.le_of_ble_eq_true rfl) (testsOK (d := d) hn0 hn1 hs hC e0 e1 (Or.inr rfl) 9 live _ 0 _ _ _ _ _ _ hT1 hl (Or.inl rfl) (fun y29 y30 => ?_))
      refine z_if_eq (t := 210) d_Mod_goesAlong_203 (by decide) (by first | omega | exact hw _ | exact hx _ _ | assumption) (fun h203 => ?_) (fun h203 => ?_)
      · refine z_iconst d_Mod_goesAlong_210 ?_
        refine mp_testIs f_Mod_488 d_Mod_goesAlong_211 (by first | exact Or.inl rfl | exact Or.inr rfl | assumption | omega) ?_
        refine j_aload_n d_Mod_goesAlong_214 rfl ?_
        refine j_aload_n d_Mod_goesAlong_215 rfl ?_
        refine mg_testIs f_Mod_488 d_Mod_goesAlong_216 ?_
        refine z_if_eq (t := 233) d_Mod_goesAlong_219 (by decide) (by first | omega | exact hw _ | exact hx _ _ | assumption) (fun h219 => ?_) (fun h219 => ?_)
        · refine z_iconst d_Mod_goesAlong_233 ?_
          refine mp_testIs f_Mod_488 d_Mod_goesAlong_234 (by first | exact Or.inl rfl | exact Or.inr rfl | assumption | omega) ?_
          refine j_aload_n d_Mod_goesAlong_237 rfl ?_
          refine j_dup d_Mod_goesAlong_238 rfl ?_
          refine mg_go f_Mod_249 d_Mod_goesAlong_239 ?_
          refine z_iconst d_Mod_goesAlong_242 ?_
          refine z_iadd d_Mod_goesAlong_243 ?_
          refine mp_go f_Mod_249 d_Mod_goesAlong_244 ?_
          refine j_return rfl d_Mod_goesAlong_247 ?_
          first
          | (exfalso; omega)
          | (have h1_ : (if tv = 1 ∧ tb = 0 then (1 : Int) else 0) = 1 := if_pos (by omega)
             rw [h1_] at hQ
             exact hQ _ _)
          | (have h0_ : (if tv = 1 ∧ tb = 0 then (1 : Int) else 0) = 0 := if_neg (by omega)
             rw [h0_] at hQ
             exact hQ _ _)
          | exact hQ _ _
        · refine j_aload_n d_Mod_goesAlong_222 rfl ?_
          refine mg_broken f_Mod_259 d_Mod_goesAlong_223 ?_
          refine z_if_ne (t := 233) d_Mod_goesAlong_226 (by decide) (by first | omega | exact hw _ | exact hx _ _ | assumption) (fun h226 => ?_) (fun h226 => ?_)
          · refine z_iconst d_Mod_goesAlong_233 ?_
            refine mp_testIs f_Mod_488 d_Mod_goesAlong_234 (by first | exact Or.inl rfl | exact Or.inr rfl | assumption | omega) ?_
            refine j_aload_n d_Mod_goesAlong_237 rfl ?_
            refine j_dup d_Mod_goesAlong_238 rfl ?_
            refine mg_go f_Mod_249 d_Mod_goesAlong_239 ?_
            refine z_iconst d_Mod_goesAlong_242 ?_
            refine z_iadd d_Mod_goesAlong_243 ?_
            refine mp_go f_Mod_249 d_Mod_goesAlong_244 ?_
            refine j_return rfl d_Mod_goesAlong_247 ?_
            first
            | (exfalso; omega)
            | (have h1_ : (if tv = 1 ∧ tb = 0 then (1 : Int) else 0) = 1 := if_pos (by omega)
               rw [h1_] at hQ
               exact hQ _ _)
            | (have h0_ : (if tv = 1 ∧ tb = 0 then (1 : Int) else 0) = 0 := if_neg (by omega)
               rw [h0_] at hQ
               exact hQ _ _)
            | exact hQ _ _
          · refine z_iconst d_Mod_goesAlong_229 ?_
            refine j_goto (t := 234) d_Mod_goesAlong_230 (by decide) ?_
            refine mp_testIs f_Mod_488 d_Mod_goesAlong_234 (by first | exact Or.inl rfl | exact Or.inr rfl | assumption | omega) ?_
            refine j_aload_n d_Mod_goesAlong_237 rfl ?_
            refine j_dup d_Mod_goesAlong_238 rfl ?_
            refine mg_go f_Mod_249 d_Mod_goesAlong_239 ?_
            refine z_iconst d_Mod_goesAlong_242 ?_
            refine z_iadd d_Mod_goesAlong_243 ?_
            refine mp_go f_Mod_249 d_Mod_goesAlong_244 ?_
            refine j_return rfl d_Mod_goesAlong_247 ?_
            first
            | (exfalso; omega)
            | (have h1_ : (if tv = 1 ∧ tb = 0 then (1 : Int) else 0) = 1 := if_pos (by omega)
               rw [h1_] at hQ
               exact hQ _ _)
            | (have h0_ : (if tv = 1 ∧ tb = 0 then (1 : Int) else 0) = 0 := if_neg (by omega)
               rw [h0_] at hQ
               exact hQ _ _)
            | exact hQ _ _
      · refine z_iconst d_Mod_goesAlong_206 ?_
        refine j_goto (t := 211) d_Mod_goesAlong_207 (by decide) ?_
        refine mp_testIs f_Mod_488 d_Mod_goesAlong_211 (by first | exact Or.inl rfl | exact Or.inr rfl | assumption | omega) ?_
        refine j_aload_n d_Mod_goesAlong_214 rfl ?_
        refine j_aload_n d_Mod_goesAlong_215 rfl ?_
        refine mg_testIs f_Mod_488 d_Mod_goesAlong_216 ?_
        refine z_if_eq (t := 233) d_Mod_goesAlong_219 (by decide) (by first | omega | exact hw _ | exact hx _ _ | assumption) (fun h219 => ?_) (fun h219 => ?_)
        · refine z_iconst d_Mod_goesAlong_233 ?_
          refine mp_testIs f_Mod_488 d_Mod_goesAlong_234 (by first | exact Or.inl rfl | exact Or.inr rfl | assumption | omega) ?_
          refine j_aload_n d_Mod_goesAlong_237 rfl ?_
          refine j_dup d_Mod_goesAlong_238 rfl ?_
          refine mg_go f_Mod_249 d_Mod_goesAlong_239 ?_
          refine z_iconst d_Mod_goesAlong_242 ?_
          refine z_iadd d_Mod_goesAlong_243 ?_
          refine mp_go f_Mod_249 d_Mod_goesAlong_244 ?_
          refine j_return rfl d_Mod_goesAlong_247 ?_
          first
          | (exfalso; omega)
          | (have h1_ : (if tv = 1 ∧ tb = 0 then (1 : Int) else 0) = 1 := if_pos (by omega)
             rw [h1_] at hQ
             exact hQ _ _)
          | (have h0_ : (if tv = 1 ∧ tb = 0 then (1 : Int) else 0) = 0 := if_neg (by omega)
             rw [h0_] at hQ
             exact hQ _ _)
          | exact hQ _ _
        · refine j_aload_n d_Mod_goesAlong_222 rfl ?_
          refine mg_broken f_Mod_259 d_Mod_goesAlong_223 ?_
          refine z_if_ne (t := 233) d_Mod_goesAlong_226 (by decide) (by first | omega | exact hw _ | exact hx _ _ | assumption) (fun h226 => ?_) (fun h226 => ?_)
          · refine z_iconst d_Mod_goesAlong_233 ?_
            refine mp_testIs f_Mod_488 d_Mod_goesAlong_234 (by first | exact Or.inl rfl | exact Or.inr rfl | assumption | omega) ?_
            refine j_aload_n d_Mod_goesAlong_237 rfl ?_
            refine j_dup d_Mod_goesAlong_238 rfl ?_
            refine mg_go f_Mod_249 d_Mod_goesAlong_239 ?_
            refine z_iconst d_Mod_goesAlong_242 ?_
            refine z_iadd d_Mod_goesAlong_243 ?_
            refine mp_go f_Mod_249 d_Mod_goesAlong_244 ?_
            refine j_return rfl d_Mod_goesAlong_247 ?_
            first
            | (exfalso; omega)
            | (have h1_ : (if tv = 1 ∧ tb = 0 then (1 : Int) else 0) = 1 := if_pos (by omega)
               rw [h1_] at hQ
               exact hQ _ _)
            | (have h0_ : (if tv = 1 ∧ tb = 0 then (1 : Int) else 0) = 0 := if_neg (by omega)
               rw [h0_] at hQ
               exact hQ _ _)
            | exact hQ _ _
          · refine z_iconst d_Mod_goesAlong_229 ?_
            refine j_goto (t := 234) d_Mod_goesAlong_230 (by decide) ?_
            refine mp_testIs f_Mod_488 d_Mod_goesAlong_234 (by first | exact Or.inl rfl | exact Or.inr rfl | assumption | omega) ?_
            refine j_aload_n d_Mod_goesAlong_237 rfl ?_
            refine j_dup d_Mod_goesAlong_238 rfl ?_
            refine mg_go f_Mod_249 d_Mod_goesAlong_239 ?_
            refine z_iconst d_Mod_goesAlong_242 ?_
            refine z_iadd d_Mod_goesAlong_243 ?_
            refine mp_go f_Mod_249 d_Mod_goesAlong_244 ?_
            refine j_return rfl d_Mod_goesAlong_247 ?_
            first
            | (exfalso; omega)
            | (have h1_ : (if tv = 1 ∧ tb = 0 then (1 : Int) else 0) = 1 := if_pos (by omega)
               rw [h1_] at hQ
               exact hQ _ _)
            | (have h0_ : (if tv = 1 ∧ tb = 0 then (1 : Int) else 0) = 0 := if_neg (by omega)
               rw [h0_] at hQ
               exact hQ _ _)
            | exact hQ _ _
    · refine z_if_eq (t := 206) d_Mod_goesAlong_195 (by decide) (by first | omega | exact hw _ | exact hx _ _ | assumption) (fun _ => ?_) (fun h => absurd h (by decide))
      obtain ⟨q3, rfl, rfl, rfl⟩ := (Hd.out hif).resolve_right (fun q => h192 q.1)
      refine z_iconst d_Mod_goesAlong_206 ?_
      refine j_goto (t := 211) d_Mod_goesAlong_207 (by decide) ?_
      refine mp_testIs f_Mod_488 d_Mod_goesAlong_211 (by first | exact Or.inl rfl | exact Or.inr rfl | assumption | omega) ?_
      refine j_aload_n d_Mod_goesAlong_214 rfl ?_
      refine j_aload_n d_Mod_goesAlong_215 rfl ?_
      refine mg_testIs f_Mod_488 d_Mod_goesAlong_216 ?_
      refine z_if_eq (t := 233) d_Mod_goesAlong_219 (by decide) (by first | omega | exact hw _ | exact hx _ _ | assumption) (fun h219 => ?_) (fun h219 => ?_)
      · refine z_iconst d_Mod_goesAlong_233 ?_
        refine mp_testIs f_Mod_488 d_Mod_goesAlong_234 (by first | exact Or.inl rfl | exact Or.inr rfl | assumption | omega) ?_
        refine j_aload_n d_Mod_goesAlong_237 rfl ?_
        refine j_dup d_Mod_goesAlong_238 rfl ?_
        refine mg_go f_Mod_249 d_Mod_goesAlong_239 ?_
        refine z_iconst d_Mod_goesAlong_242 ?_
        refine z_iadd d_Mod_goesAlong_243 ?_
        refine mp_go f_Mod_249 d_Mod_goesAlong_244 ?_
        refine j_return rfl d_Mod_goesAlong_247 ?_
        first
        | (exfalso; omega)
        | (have h1_ : (if tv = 1 ∧ tb = 0 then (1 : Int) else 0) = 1 := if_pos (by omega)
           rw [h1_] at hQ
           exact hQ _ _)
        | (have h0_ : (if tv = 1 ∧ tb = 0 then (1 : Int) else 0) = 0 := if_neg (by omega)
           rw [h0_] at hQ
           exact hQ _ _)
        | exact hQ _ _
      · refine j_aload_n d_Mod_goesAlong_222 rfl ?_
        refine mg_broken f_Mod_259 d_Mod_goesAlong_223 ?_
        refine z_if_ne (t := 233) d_Mod_goesAlong_226 (by decide) (by first | omega | exact hw _ | exact hx _ _ | assumption) (fun h226 => ?_) (fun h226 => ?_)
        · refine z_iconst d_Mod_goesAlong_233 ?_
          refine mp_testIs f_Mod_488 d_Mod_goesAlong_234 (by first | exact Or.inl rfl | exact Or.inr rfl | assumption | omega) ?_
          refine j_aload_n d_Mod_goesAlong_237 rfl ?_
          refine j_dup d_Mod_goesAlong_238 rfl ?_
          refine mg_go f_Mod_249 d_Mod_goesAlong_239 ?_
          refine z_iconst d_Mod_goesAlong_242 ?_
          refine z_iadd d_Mod_goesAlong_243 ?_
          refine mp_go f_Mod_249 d_Mod_goesAlong_244 ?_
          refine j_return rfl d_Mod_goesAlong_247 ?_
          first
          | (exfalso; omega)
          | (have h1_ : (if tv = 1 ∧ tb = 0 then (1 : Int) else 0) = 1 := if_pos (by omega)
             rw [h1_] at hQ
             exact hQ _ _)
          | (have h0_ : (if tv = 1 ∧ tb = 0 then (1 : Int) else 0) = 0 := if_neg (by omega)
             rw [h0_] at hQ
             exact hQ _ _)
          | exact hQ _ _
        · refine z_iconst d_Mod_goesAlong_229 ?_
          refine j_goto (t := 234) d_Mod_goesAlong_230 (by decide) ?_
          refine mp_testIs f_Mod_488 d_Mod_goesAlong_234 (by first | exact Or.inl rfl | exact Or.inr rfl | assumption | omega) ?_
          refine j_aload_n d_Mod_goesAlong_237 rfl ?_
          refine j_dup d_Mod_goesAlong_238 rfl ?_
          refine mg_go f_Mod_249 d_Mod_goesAlong_239 ?_
          refine z_iconst d_Mod_goesAlong_242 ?_
          refine z_iadd d_Mod_goesAlong_243 ?_
          refine mp_go f_Mod_249 d_Mod_goesAlong_244 ?_
          refine j_return rfl d_Mod_goesAlong_247 ?_
          first
          | (exfalso; omega)
          | (have h1_ : (if tv = 1 ∧ tb = 0 then (1 : Int) else 0) = 1 := if_pos (by omega)
             rw [h1_] at hQ
             exact hQ _ _)
          | (have h0_ : (if tv = 1 ∧ tb = 0 then (1 : Int) else 0) = 0 := if_neg (by omega)
             rw [h0_] at hQ
             exact hQ _ _)
          | exact hQ _ _
theorem t_Mod_goesAlong0 {g : Bool} {d : Nat} {Q : List xM → Option Value → Prop} {k23 i0 i6 i8 i9 i10 i13 i14 i18 i19 i20 i21 i22 i23 i24 i25 i27 i28 i33 i42 i43 i44 i45 i46 i47 i48 i51 i52 : Int} {x1 x2 x3 x4 x5 x7 x11 x12 x15 x16 x17 x26 x29 x30 x31 x32 x34 x35 x36 x37 x38 x39 x40 x41 x49 x50 : Int → Int} (hn0 : 0 ≤ x2 0) (hn1 : x2 0 ≤ 20) (hs : ∀ j, 0 ≤ j → j < x2 0 → 0 ≤ x2 (1 + j) ∧ x2 (1 + j) ≤ 11) (hC : ∀ k, 0 ≤ k → k < 2800 → 0 ≤ x2 (33 + k) ∧ x2 (33 + k) ≤ 400) (e0 : 0 ≤ i23) (e1 : i23 ≤ 2800) {live g2 g3 g4 tm tv tb : Int} (hl : live = 0 ∨ live = 1) (hg2 : 0 ≤ g2 ∧ g2 ≤ 2800) (hg3 : 0 ≤ g3 ∧ g3 ≤ 2800) (hg4 : 0 ≤ g4 ∧ g4 ≤ 2800) (hti : (¬ (cdA x2 i23) g2 = 27 ∧ tm = 1 ∧ g3 = g2) ∨ ((cdA x2 i23) g2 = 27 ∧ g2 + 1 ≤ 2799 ∧ tm = x2 (2833 + (g2 + 1)) ∧ g3 = g2 + 2)) (hif : Hd ((¬ (cdA x2 i23) g3 = 5 ∧ tv = 1 ∧ tb = 0 ∧ g4 = g3) ∨ ((cdA x2 i23) g3 = 5 ∧ (tsE (cdA x2 i23) (sE (cdA x2 i23) (vlA x2) (wvM 1 x26 x2 i27 i28) 1 9) 9) live (g3 + 1) 0 = some (tv, g4, tb) ∧ b01 tv ∧ b01 tb))) (eg : i43 + 1 = g2) (hhd : (cdA x2 i23) i43 = 26) (h43 : 0 ≤ i43 ∧ i43 ≤ 2799) (hQ : ∀ y29 y30, Q (MM i0 i6 i8 i9 i10 i13 i14 i18 i19 i20 i21 (g4 + 1) i23 tb 1 i27 i28 i33 i42 i43 tm ((cdA x2 i23) i43) i46 1 (if tv = 1 ∧ tb = 0 then 1 else 0) i51 i52 x1 x2 x3 x4 x5 x7 x11 x12 x15 x16 x17 x26 y29 y30 x31 x32 x34 x35 x36 x37 x38 x39 x40 x41 x49 x50) none) : CT g m_Mod_goesAlong (d + 87) [.ref 0, .int (ii i23), .int (ii live)] (MM i0 i6 i8 i9 i10 i13 i14 i18 i19 i20 i21 i22 k23 i24 i25 i27 i28 i33 i42 i43 i44 i45 i46 i47 i48 i51 i52 x1 x2 x3 x4 x5 x7 x11 x12 x15 x16 x17 x26 x29 x30 x31 x32 x34 x35 x36 x37 x38 x39 x40 x41 x49 x50) 0 0 Q := by
  refine CT.of (by decide) (Nat.le_of_ble_eq_true rfl) ?_
  show SJ _ _ _ _ [some (.ref 0), some (.int (ii i23)), some (.int (ii live)), none, none] [] _ _ _ _
  refine j_aload_n d_Mod_goesAlong_0 rfl ?_
  refine z_iconst d_Mod_goesAlong_1 ?_
  refine mp_inOrders f_Mod_279 d_Mod_goesAlong_2 (by first | exact Or.inl rfl | exact Or.inr rfl | assumption | omega) ?_
  refine j_aload_n d_Mod_goesAlong_5 rfl ?_
  refine j_iload_n d_Mod_goesAlong_6 rfl ?_
  refine mp_goEnd f_Mod_246 d_Mod_goesAlong_7 ?_
  refine j_aload_n d_Mod_goesAlong_10 rfl ?_
  refine j_aload_n d_Mod_goesAlong_11 rfl ?_
  refine mg_orderAt f_Mod_470 d_Mod_goesAlong_12 ?_
  refine mp_go f_Mod_249 d_Mod_goesAlong_15 ?_
  refine j_aload_n d_Mod_goesAlong_18 rfl ?_
  refine j_aload_n d_Mod_goesAlong_19 rfl ?_
  refine j_aload_n d_Mod_goesAlong_20 rfl ?_
  refine mg_go f_Mod_249 d_Mod_goesAlong_21 ?_
  refine v_call1 d_Mod_goesAlong_24 c_Mod_252 rfl ⟨_, rfl, rfl⟩ (Nat.le_of_ble_eq_true rfl) (t_Mod_codeAt hC e0 e1 (by omega) (by omega) ?_)
  refine mp_head f_Mod_479 d_Mod_goesAlong_27 ?_
  refine j_aload_n d_Mod_goesAlong_30 rfl ?_
  refine j_dup d_Mod_goesAlong_31 rfl ?_
  refine mg_go f_Mod_249 d_Mod_goesAlong_32 ?_
  refine z_iconst d_Mod_goesAlong_35 ?_
  refine z_iadd d_Mod_goesAlong_36 ?_
  refine mp_go f_Mod_249 d_Mod_goesAlong_37 ?_
  refine j_aload_n d_Mod_goesAlong_40 rfl ?_
  refine z_iconst d_Mod_goesAlong_41 ?_
  refine mp_sumsAre f_Mod_482 d_Mod_goesAlong_42 (by first | exact Or.inl rfl | exact Or.inr rfl | assumption | omega) ?_
  have hcr := cdA_R (k := i43) hC e1 (by omega)
  refine j_aload_n d_Mod_goesAlong_45 rfl ?_
  refine mg_head f_Mod_479 d_Mod_goesAlong_46 ?_
  refine z_bipush d_Mod_goesAlong_49 (by decide) ?_
  refine z_icmp_ne (t := 58) d_Mod_goesAlong_51 (by decide) (by first | omega | exact hw _ | exact hx _ _ | assumption) (by first | omega | exact hw _ | exact hx _ _ | assumption) (fun h51 => ?_) (fun h51 => ?_)
  · exfalso
    omega
  · refine z_iconst d_Mod_goesAlong_54 ?_
    refine j_goto (t := 72) d_Mod_goesAlong_55 (by decide) ?_
    refine j_istore_n d_Mod_goesAlong_72 (by decide) ?_
    show SJ _ _ _ _ [_, _, _, _, _] _ _ _ _ _
    refine z_iconst d_Mod_goesAlong_73 ?_
    refine j_istore d_Mod_goesAlong_74 (by decide) ?_
    show SJ _ _ _ _ [_, _, _, _, _] _ _ _ _ _
    refine j_iload d_Mod_goesAlong_76 rfl ?_
    refine j_iload_n d_Mod_goesAlong_78 rfl ?_
    refine z_icmp_ge (t := 143) d_Mod_goesAlong_79 (by decide) (by first | omega | exact hw _ | exact hx _ _ | assumption) (by first | omega | exact hw _ | exact hx _ _ | assumption) (fun _ => ?_) (fun h => absurd h (by decide))
    refine SJ.mask [true, true, true, false, false] ?_
    show SJ _ _ _ _ [_, _, _, none, none] _ _ _ _ _
    rw [show i43 + 1 = g2 from eg]
    first
    | (have hQ2 := hQ
       exact sj_ga hn0 hn1 hs hC e0 e1 hl hg2 hg3 hg4 hti hif hQ2)
theorem t_Mod_goesAlong1 {g : Bool} {d : Nat} {Q : List xM → Option Value → Prop} {k23 i0 i6 i8 i9 i10 i13 i14 i18 i19 i20 i21 i22 i23 i24 i25 i27 i28 i33 i42 i43 i44 i45 i46 i47 i48 i51 i52 : Int} {x1 x2 x3 x4 x5 x7 x11 x12 x15 x16 x17 x26 x29 x30 x31 x32 x34 x35 x36 x37 x38 x39 x40 x41 x49 x50 : Int → Int} (hn0 : 0 ≤ x2 0) (hn1 : x2 0 ≤ 20) (hs : ∀ j, 0 ≤ j → j < x2 0 → 0 ≤ x2 (1 + j) ∧ x2 (1 + j) ≤ 11) (hC : ∀ k, 0 ≤ k → k < 2800 → 0 ≤ x2 (33 + k) ∧ x2 (33 + k) ≤ 400) (e0 : 0 ≤ i23) (e1 : i23 ≤ 2800) {live g2 g3 g4 tm tv tb : Int} (hl : live = 0 ∨ live = 1) (hg2 : 0 ≤ g2 ∧ g2 ≤ 2800) (hg3 : 0 ≤ g3 ∧ g3 ≤ 2800) (hg4 : 0 ≤ g4 ∧ g4 ≤ 2800) (hti : (¬ (cdA x2 i23) g2 = 27 ∧ tm = 1 ∧ g3 = g2) ∨ ((cdA x2 i23) g2 = 27 ∧ g2 + 1 ≤ 2799 ∧ tm = x2 (2833 + (g2 + 1)) ∧ g3 = g2 + 2)) (hif : Hd ((¬ (cdA x2 i23) g3 = 5 ∧ tv = 1 ∧ tb = 0 ∧ g4 = g3) ∨ ((cdA x2 i23) g3 = 5 ∧ (tsE (cdA x2 i23) (sE (cdA x2 i23) (vlA x2) (wvM 1 x26 x2 i27 i28) 1 9) 9) live (g3 + 1) 0 = some (tv, g4, tb) ∧ b01 tv ∧ b01 tb))) {v1 b1 g1 : Int} (hS1 : (sE (cdA x2 i23) (vlA x2) (wvM 1 x26 x2 i27 i28) 1 9) live (i43 + 1) 0 = some (v1, g1, b1)) (rv1 : rgo v1) (rb1 : b01 b1) (hg1 : 0 ≤ g1 ∧ g1 ≤ 2800) (eg : g1 = g2) (hhd : (cdA x2 i23) i43 = 23) (h43 : 0 ≤ i43 ∧ i43 ≤ 2799) (hQ : ∀ y29 y30, Q (MM i0 i6 i8 i9 i10 i13 i14 i18 i19 i20 i21 (g4 + 1) i23 tb 1 i27 i28 i33 i42 i43 tm ((cdA x2 i23) i43) i46 (if b1 = 0 then 1 else 0) (if tv = 1 ∧ tb = 0 then 1 else 0) i51 i52 x1 x2 x3 x4 x5 x7 x11 x12 x15 x16 x17 x26 y29 y30 x31 x32 x34 x35 x36 x37 x38 x39 x40 x41 (up x49 0 v1) x50) none) : CT g m_Mod_goesAlong (d + 87) [.ref 0, .int (ii i23), .int (ii live)] (MM i0 i6 i8 i9 i10 i13 i14 i18 i19 i20 i21 i22 k23 i24 i25 i27 i28 i33 i42 i43 i44 i45 i46 i47 i48 i51 i52 x1 x2 x3 x4 x5 x7 x11 x12 x15 x16 x17 x26 x29 x30 x31 x32 x34 x35 x36 x37 x38 x39 x40 x41 x49 x50) 0 0 Q := by
  refine CT.of (by decide) (Nat.le_of_ble_eq_true rfl) ?_
  show SJ _ _ _ _ [some (.ref 0), some (.int (ii i23)), some (.int (ii live)), none, none] [] _ _ _ _
  refine j_aload_n d_Mod_goesAlong_0 rfl ?_
  refine z_iconst d_Mod_goesAlong_1 ?_
  refine mp_inOrders f_Mod_279 d_Mod_goesAlong_2 (by first | exact Or.inl rfl | exact Or.inr rfl | assumption | omega) ?_
  refine j_aload_n d_Mod_goesAlong_5 rfl ?_
  refine j_iload_n d_Mod_goesAlong_6 rfl ?_
  refine mp_goEnd f_Mod_246 d_Mod_goesAlong_7 ?_
  refine j_aload_n d_Mod_goesAlong_10 rfl ?_
  refine j_aload_n d_Mod_goesAlong_11 rfl ?_
  refine mg_orderAt f_Mod_470 d_Mod_goesAlong_12 ?_
  refine mp_go f_Mod_249 d_Mod_goesAlong_15 ?_
  refine j_aload_n d_Mod_goesAlong_18 rfl ?_
  refine j_aload_n d_Mod_goesAlong_19 rfl ?_
  refine j_aload_n d_Mod_goesAlong_20 rfl ?_
  refine mg_go f_Mod_249 d_Mod_goesAlong_21 ?_
  refine v_call1 d_Mod_goesAlong_24 c_Mod_252 rfl ⟨_, rfl, rfl⟩ (Nat.le_of_ble_eq_true rfl) (t_Mod_codeAt hC e0 e1 (by omega) (by omega) ?_)
  refine mp_head f_Mod_479 d_Mod_goesAlong_27 ?_
  refine j_aload_n d_Mod_goesAlong_30 rfl ?_
  refine j_dup d_Mod_goesAlong_31 rfl ?_
  refine mg_go f_Mod_249 d_Mod_goesAlong_32 ?_
  refine z_iconst d_Mod_goesAlong_35 ?_
  refine z_iadd d_Mod_goesAlong_36 ?_
  refine mp_go f_Mod_249 d_Mod_goesAlong_37 ?_
  refine j_aload_n d_Mod_goesAlong_40 rfl ?_
  refine z_iconst d_Mod_goesAlong_41 ?_
  refine mp_sumsAre f_Mod_482 d_Mod_goesAlong_42 (by first | exact Or.inl rfl | exact Or.inr rfl | assumption | omega) ?_
  have hcr := cdA_R (k := i43) hC e1 (by omega)
  refine j_aload_n d_Mod_goesAlong_45 rfl ?_
  refine mg_head f_Mod_479 d_Mod_goesAlong_46 ?_
  refine z_bipush d_Mod_goesAlong_49 (by decide) ?_
  refine z_icmp_ne (t := 58) d_Mod_goesAlong_51 (by decide) (by first | omega | exact hw _ | exact hx _ _ | assumption) (by first | omega | exact hw _ | exact hx _ _ | assumption) (fun h51 => ?_) (fun h51 => ?_)
  · refine j_aload_n d_Mod_goesAlong_58 rfl ?_
    refine mg_head f_Mod_479 d_Mod_goesAlong_59 ?_
    refine z_bipush d_Mod_goesAlong_62 (by decide) ?_
    refine z_icmp_ne (t := 71) d_Mod_goesAlong_64 (by decide) (by first | omega | exact hw _ | exact hx _ _ | assumption) (by first | omega | exact hw _ | exact hx _ _ | assumption) (fun h64 => ?_) (fun h64 => ?_)
    · exfalso
      omega
    · refine z_iconst d_Mod_goesAlong_67 ?_
      refine j_goto (t := 72) d_Mod_goesAlong_68 (by decide) ?_
      refine j_istore_n d_Mod_goesAlong_72 (by decide) ?_
      show SJ _ _ _ _ [_, _, _, _, _] _ _ _ _ _
      refine z_iconst d_Mod_goesAlong_73 ?_
      refine j_istore d_Mod_goesAlong_74 (by decide) ?_
      show SJ _ _ _ _ [_, _, _, _, _] _ _ _ _ _
      refine j_iload d_Mod_goesAlong_76 rfl ?_
      refine j_iload_n d_Mod_goesAlong_78 rfl ?_
      refine z_icmp_ge (t := 143) d_Mod_goesAlong_79 (by decide) (by first | omega | exact hw _ | exact hx _ _ | assumption) (by first | omega | exact hw _ | exact hx _ _ | assumption) (fun h => absurd h (by decide)) (fun _ => ?_)
      refine j_iload d_Mod_goesAlong_82 rfl ?_
      refine z_if_le (t := 97) d_Mod_goesAlong_84 (by decide) (by first | omega | exact hw _ | exact hx _ _ | assumption) (fun _ => ?_) (fun h => absurd h (by decide))
      refine j_aload_n d_Mod_goesAlong_97 rfl ?_
      refine z_iconst d_Mod_goesAlong_98 ?_
      refine mp_broken f_Mod_259 d_Mod_goesAlong_99 (by first | exact Or.inl rfl | exact Or.inr rfl | assumption | omega) ?_
      refine j_aload_n d_Mod_goesAlong_102 rfl ?_
      refine mg_sums f_Mod_110 d_Mod_goesAlong_103 ?_
      refine j_iload d_Mod_goesAlong_106 rfl ?_
      refine j_aload_n d_Mod_goesAlong_108 rfl ?_
      refine j_iload_n d_Mod_goesAlong_109 rfl ?_
      refine v_call1 d_Mod_goesAlong_110 c_Mod_276 rfl ⟨_, rfl, rfl⟩ (Nat.le_of_ble_eq_true rfl) (sumsOK (d := d + 49) hn0 hn1 hs hC e0 e1 (Or.inr rfl) 9 live _ 0 _ _ _ _ _ _ hS1 hl (Or.inl rfl) (fun y29 y30 => ?_))
      refine ms_sums d_Mod_goesAlong_113 (by omega) (by omega) ?_
      refine j_aload_n d_Mod_goesAlong_114 rfl ?_
      refine j_aload_n d_Mod_goesAlong_115 rfl ?_
      refine mg_sumsAre f_Mod_482 d_Mod_goesAlong_116 ?_
      refine z_if_eq (t := 133) d_Mod_goesAlong_119 (by decide) (by first | omega | exact hw _ | exact hx _ _ | assumption) (fun h119 => ?_) (fun h119 => ?_)
      · refine z_iconst d_Mod_goesAlong_133 ?_
        refine mp_sumsAre f_Mod_482 d_Mod_goesAlong_134 (by first | exact Or.inl rfl | exact Or.inr rfl | assumption | omega) ?_
        refine z_iinc d_Mod_goesAlong_137 rfl (by decide) ?_
        show SJ _ _ _ _ [_, _, _, _, _] _ _ _ _ _
        refine j_goto (t := 76) d_Mod_goesAlong_140 (by decide) ?_
        refine j_iload d_Mod_goesAlong_76 rfl ?_
        refine j_iload_n d_Mod_goesAlong_78 rfl ?_
        refine z_icmp_ge (t := 143) d_Mod_goesAlong_79 (by decide) (by first | omega | exact hw _ | exact hx _ _ | assumption) (by first | omega | exact hw _ | exact hx _ _ | assumption) (fun _ => ?_) (fun h => absurd h (by decide))
        refine SJ.mask [true, true, true, false, false] ?_
        show SJ _ _ _ _ [_, _, _, none, none] _ _ _ _ _
        subst eg
        first
        | (have hQ2 := hQ
           rw [if_pos (by omega)] at hQ2
           exact sj_ga hn0 hn1 hs hC e0 e1 hl hg2 hg3 hg4 hti hif hQ2)
        | (have hQ2 := hQ
           rw [if_neg (by omega)] at hQ2
           exact sj_ga hn0 hn1 hs hC e0 e1 hl hg2 hg3 hg4 hti hif hQ2)
      · refine j_aload_n d_Mod_goesAlong_122 rfl ?_
        refine mg_broken f_Mod_259 d_Mod_goesAlong_123 ?_
        refine z_if_ne (t := 133) d_Mod_goesAlong_126 (by decide) (by first | omega | exact hw _ | exact hx _ _ | assumption) (fun h126 => ?_) (fun h126 => ?_)
        · refine z_iconst d_Mod_goesAlong_133 ?_
          refine mp_sumsAre f_Mod_482 d_Mod_goesAlong_134 (by first | exact Or.inl rfl | exact Or.inr rfl | assumption | omega) ?_
          refine z_iinc d_Mod_goesAlong_137 rfl (by decide) ?_
          show SJ _ _ _ _ [_, _, _, _, _] _ _ _ _ _
          refine j_goto (t := 76) d_Mod_goesAlong_140 (by decide) ?_
          refine j_iload d_Mod_goesAlong_76 rfl ?_
          refine j_iload_n d_Mod_goesAlong_78 rfl ?_
          refine z_icmp_ge (t := 143) d_Mod_goesAlong_79 (by decide) (by first | omega | exact hw _ | exact hx _ _ | assumption) (by first | omega | exact hw _ | exact hx _ _ | assumption) (fun _ => ?_) (fun h => absurd h (by decide))
          refine SJ.mask [true, true, true, false, false] ?_
          show SJ _ _ _ _ [_, _, _, none, none] _ _ _ _ _
          subst eg
          first
          | (have hQ2 := hQ
             rw [if_pos (by omega)] at hQ2
             exact sj_ga hn0 hn1 hs hC e0 e1 hl hg2 hg3 hg4 hti hif hQ2)
          | (have hQ2 := hQ
             rw [if_neg (by omega)] at hQ2
             exact sj_ga hn0 hn1 hs hC e0 e1 hl hg2 hg3 hg4 hti hif hQ2)
        · refine z_iconst d_Mod_goesAlong_129 ?_
          refine j_goto (t := 134) d_Mod_goesAlong_130 (by decide) ?_
          refine mp_sumsAre f_Mod_482 d_Mod_goesAlong_134 (by first | exact Or.inl rfl | exact Or.inr rfl | assumption | omega) ?_
          refine z_iinc d_Mod_goesAlong_137 rfl (by decide) ?_
          show SJ _ _ _ _ [_, _, _, _, _] _ _ _ _ _
          refine j_goto (t := 76) d_Mod_goesAlong_140 (by decide) ?_
          refine j_iload d_Mod_goesAlong_76 rfl ?_
          refine j_iload_n d_Mod_goesAlong_78 rfl ?_
          refine z_icmp_ge (t := 143) d_Mod_goesAlong_79 (by decide) (by first | omega | exact hw _ | exact hx _ _ | assumption) (by first | omega | exact hw _ | exact hx _ _ | assumption) (fun _ => ?_) (fun h => absurd h (by decide))
          refine SJ.mask [true, true, true, false, false] ?_
          show SJ _ _ _ _ [_, _, _, none, none] _ _ _ _ _
          subst eg
          first
          | (have hQ2 := hQ
             rw [if_pos (by omega)] at hQ2
             exact sj_ga hn0 hn1 hs hC e0 e1 hl hg2 hg3 hg4 hti hif hQ2)
          | (have hQ2 := hQ
             rw [if_neg (by omega)] at hQ2
             exact sj_ga hn0 hn1 hs hC e0 e1 hl hg2 hg3 hg4 hti hif hQ2)
  · exfalso
    omega
theorem t_Mod_goesAlong2 {g : Bool} {d : Nat} {Q : List xM → Option Value → Prop} {k23 i0 i6 i8 i9 i10 i13 i14 i18 i19 i20 i21 i22 i23 i24 i25 i27 i28 i33 i42 i43 i44 i45 i46 i47 i48 i51 i52 : Int} {x1 x2 x3 x4 x5 x7 x11 x12 x15 x16 x17 x26 x29 x30 x31 x32 x34 x35 x36 x37 x38 x39 x40 x41 x49 x50 : Int → Int} (hn0 : 0 ≤ x2 0) (hn1 : x2 0 ≤ 20) (hs : ∀ j, 0 ≤ j → j < x2 0 → 0 ≤ x2 (1 + j) ∧ x2 (1 + j) ≤ 11) (hC : ∀ k, 0 ≤ k → k < 2800 → 0 ≤ x2 (33 + k) ∧ x2 (33 + k) ≤ 400) (e0 : 0 ≤ i23) (e1 : i23 ≤ 2800) {live g2 g3 g4 tm tv tb : Int} (hl : live = 0 ∨ live = 1) (hg2 : 0 ≤ g2 ∧ g2 ≤ 2800) (hg3 : 0 ≤ g3 ∧ g3 ≤ 2800) (hg4 : 0 ≤ g4 ∧ g4 ≤ 2800) (hti : (¬ (cdA x2 i23) g2 = 27 ∧ tm = 1 ∧ g3 = g2) ∨ ((cdA x2 i23) g2 = 27 ∧ g2 + 1 ≤ 2799 ∧ tm = x2 (2833 + (g2 + 1)) ∧ g3 = g2 + 2)) (hif : Hd ((¬ (cdA x2 i23) g3 = 5 ∧ tv = 1 ∧ tb = 0 ∧ g4 = g3) ∨ ((cdA x2 i23) g3 = 5 ∧ (tsE (cdA x2 i23) (sE (cdA x2 i23) (vlA x2) (wvM 1 x26 x2 i27 i28) 1 9) 9) live (g3 + 1) 0 = some (tv, g4, tb) ∧ b01 tv ∧ b01 tb))) {v1 b1 g1 : Int} (hS1 : (sE (cdA x2 i23) (vlA x2) (wvM 1 x26 x2 i27 i28) 1 9) live (i43 + 1) 0 = some (v1, g1, b1)) (rv1 : rgo v1) (rb1 : b01 b1) (hg1 : 0 ≤ g1 ∧ g1 ≤ 2799) {v2 b2 : Int} (hS2 : (sE (cdA x2 i23) (vlA x2) (wvM 1 x26 x2 i27 i28) 1 9) live (g1 + 1) 0 = some (v2, g2, b2)) (rv2 : rgo v2) (rb2 : b01 b2) (hhd : (cdA x2 i23) i43 = 21 ∨ (cdA x2 i23) i43 = 24) (h43 : 0 ≤ i43 ∧ i43 ≤ 2799) (hQ : ∀ y29 y30, Q (MM i0 i6 i8 i9 i10 i13 i14 i18 i19 i20 i21 (g4 + 1) i23 tb 1 i27 i28 i33 i42 i43 tm ((cdA x2 i23) i43) i46 (if b1 = 0 ∧ b2 = 0 then 1 else 0) (if tv = 1 ∧ tb = 0 then 1 else 0) i51 i52 x1 x2 x3 x4 x5 x7 x11 x12 x15 x16 x17 x26 y29 y30 x31 x32 x34 x35 x36 x37 x38 x39 x40 x41 (up (up x49 0 v1) 1 v2) x50) none) : CT g m_Mod_goesAlong (d + 87) [.ref 0, .int (ii i23), .int (ii live)] (MM i0 i6 i8 i9 i10 i13 i14 i18 i19 i20 i21 i22 k23 i24 i25 i27 i28 i33 i42 i43 i44 i45 i46 i47 i48 i51 i52 x1 x2 x3 x4 x5 x7 x11 x12 x15 x16 x17 x26 x29 x30 x31 x32 x34 x35 x36 x37 x38 x39 x40 x41 x49 x50) 0 0 Q := by
  refine CT.of (by decide) (Nat.le_of_ble_eq_true rfl) ?_
  show SJ _ _ _ _ [some (.ref 0), some (.int (ii i23)), some (.int (ii live)), none, none] [] _ _ _ _
  refine j_aload_n d_Mod_goesAlong_0 rfl ?_
  refine z_iconst d_Mod_goesAlong_1 ?_
  refine mp_inOrders f_Mod_279 d_Mod_goesAlong_2 (by first | exact Or.inl rfl | exact Or.inr rfl | assumption | omega) ?_
  refine j_aload_n d_Mod_goesAlong_5 rfl ?_
  refine j_iload_n d_Mod_goesAlong_6 rfl ?_
  refine mp_goEnd f_Mod_246 d_Mod_goesAlong_7 ?_
  refine j_aload_n d_Mod_goesAlong_10 rfl ?_
  refine j_aload_n d_Mod_goesAlong_11 rfl ?_
  refine mg_orderAt f_Mod_470 d_Mod_goesAlong_12 ?_
  refine mp_go f_Mod_249 d_Mod_goesAlong_15 ?_
  refine j_aload_n d_Mod_goesAlong_18 rfl ?_
  refine j_aload_n d_Mod_goesAlong_19 rfl ?_
  refine j_aload_n d_Mod_goesAlong_20 rfl ?_
  refine mg_go f_Mod_249 d_Mod_goesAlong_21 ?_
  refine v_call1 d_Mod_goesAlong_24 c_Mod_252 rfl ⟨_, rfl, rfl⟩ (Nat.le_of_ble_eq_true rfl) (t_Mod_codeAt hC e0 e1 (by omega) (by omega) ?_)
  refine mp_head f_Mod_479 d_Mod_goesAlong_27 ?_
  refine j_aload_n d_Mod_goesAlong_30 rfl ?_
  refine j_dup d_Mod_goesAlong_31 rfl ?_
  refine mg_go f_Mod_249 d_Mod_goesAlong_32 ?_
  refine z_iconst d_Mod_goesAlong_35 ?_
  refine z_iadd d_Mod_goesAlong_36 ?_
  refine mp_go f_Mod_249 d_Mod_goesAlong_37 ?_
  refine j_aload_n d_Mod_goesAlong_40 rfl ?_
  refine z_iconst d_Mod_goesAlong_41 ?_
  refine mp_sumsAre f_Mod_482 d_Mod_goesAlong_42 (by first | exact Or.inl rfl | exact Or.inr rfl | assumption | omega) ?_
  have hcr := cdA_R (k := i43) hC e1 (by omega)
  refine j_aload_n d_Mod_goesAlong_45 rfl ?_
  refine mg_head f_Mod_479 d_Mod_goesAlong_46 ?_
  refine z_bipush d_Mod_goesAlong_49 (by decide) ?_
  refine z_icmp_ne (t := 58) d_Mod_goesAlong_51 (by decide) (by first | omega | exact hw _ | exact hx _ _ | assumption) (by first | omega | exact hw _ | exact hx _ _ | assumption) (fun h51 => ?_) (fun h51 => ?_)
  · refine j_aload_n d_Mod_goesAlong_58 rfl ?_
    refine mg_head f_Mod_479 d_Mod_goesAlong_59 ?_
    refine z_bipush d_Mod_goesAlong_62 (by decide) ?_
    refine z_icmp_ne (t := 71) d_Mod_goesAlong_64 (by decide) (by first | omega | exact hw _ | exact hx _ _ | assumption) (by first | omega | exact hw _ | exact hx _ _ | assumption) (fun h64 => ?_) (fun h64 => ?_)
    · refine z_iconst d_Mod_goesAlong_71 ?_
      refine j_istore_n d_Mod_goesAlong_72 (by decide) ?_
      show SJ _ _ _ _ [_, _, _, _, _] _ _ _ _ _
      refine z_iconst d_Mod_goesAlong_73 ?_
      refine j_istore d_Mod_goesAlong_74 (by decide) ?_
      show SJ _ _ _ _ [_, _, _, _, _] _ _ _ _ _
      refine j_iload d_Mod_goesAlong_76 rfl ?_
      refine j_iload_n d_Mod_goesAlong_78 rfl ?_
      refine z_icmp_ge (t := 143) d_Mod_goesAlong_79 (by decide) (by first | omega | exact hw _ | exact hx _ _ | assumption) (by first | omega | exact hw _ | exact hx _ _ | assumption) (fun h => absurd h (by decide)) (fun _ => ?_)
      refine j_iload d_Mod_goesAlong_82 rfl ?_
      refine z_if_le (t := 97) d_Mod_goesAlong_84 (by decide) (by first | omega | exact hw _ | exact hx _ _ | assumption) (fun _ => ?_) (fun h => absurd h (by decide))
      refine j_aload_n d_Mod_goesAlong_97 rfl ?_
      refine z_iconst d_Mod_goesAlong_98 ?_
      refine mp_broken f_Mod_259 d_Mod_goesAlong_99 (by first | exact Or.inl rfl | exact Or.inr rfl | assumption | omega) ?_
      refine j_aload_n d_Mod_goesAlong_102 rfl ?_
      refine mg_sums f_Mod_110 d_Mod_goesAlong_103 ?_
      refine j_iload d_Mod_goesAlong_106 rfl ?_
      refine j_aload_n d_Mod_goesAlong_108 rfl ?_
      refine j_iload_n d_Mod_goesAlong_109 rfl ?_
      refine v_call1 d_Mod_goesAlong_110 c_Mod_276 rfl ⟨_, rfl, rfl⟩ (Nat.le_of_ble_eq_true rfl) (sumsOK (d := d + 49) hn0 hn1 hs hC e0 e1 (Or.inr rfl) 9 live _ 0 _ _ _ _ _ _ hS1 hl (Or.inl rfl) (fun y29 y30 => ?_))
      refine ms_sums d_Mod_goesAlong_113 (by omega) (by omega) ?_
      refine j_aload_n d_Mod_goesAlong_114 rfl ?_
      refine j_aload_n d_Mod_goesAlong_115 rfl ?_
      refine mg_sumsAre f_Mod_482 d_Mod_goesAlong_116 ?_
      refine z_if_eq (t := 133) d_Mod_goesAlong_119 (by decide) (by first | omega | exact hw _ | exact hx _ _ | assumption) (fun h119 => ?_) (fun h119 => ?_)
      · refine z_iconst d_Mod_goesAlong_133 ?_
        refine mp_sumsAre f_Mod_482 d_Mod_goesAlong_134 (by first | exact Or.inl rfl | exact Or.inr rfl | assumption | omega) ?_
        refine z_iinc d_Mod_goesAlong_137 rfl (by decide) ?_
        show SJ _ _ _ _ [_, _, _, _, _] _ _ _ _ _
        refine j_goto (t := 76) d_Mod_goesAlong_140 (by decide) ?_
        refine j_iload d_Mod_goesAlong_76 rfl ?_
        refine j_iload_n d_Mod_goesAlong_78 rfl ?_
        refine z_icmp_ge (t := 143) d_Mod_goesAlong_79 (by decide) (by first | omega | exact hw _ | exact hx _ _ | assumption) (by first | omega | exact hw _ | exact hx _ _ | assumption) (fun h => absurd h (by decide)) (fun _ => ?_)
        refine j_iload d_Mod_goesAlong_82 rfl ?_
        refine z_if_le (t := 97) d_Mod_goesAlong_84 (by decide) (by first | omega | exact hw _ | exact hx _ _ | assumption) (fun h => absurd h (by decide)) (fun _ => ?_)
        refine j_aload_n d_Mod_goesAlong_87 rfl ?_
        refine j_dup d_Mod_goesAlong_88 rfl ?_
        refine mg_go f_Mod_249 d_Mod_goesAlong_89 ?_
        refine z_iconst d_Mod_goesAlong_92 ?_
        refine z_iadd d_Mod_goesAlong_93 ?_
        refine mp_go f_Mod_249 d_Mod_goesAlong_94 ?_
        refine j_aload_n d_Mod_goesAlong_97 rfl ?_
        refine z_iconst d_Mod_goesAlong_98 ?_
        refine mp_broken f_Mod_259 d_Mod_goesAlong_99 (by first | exact Or.inl rfl | exact Or.inr rfl | assumption | omega) ?_
        refine j_aload_n d_Mod_goesAlong_102 rfl ?_
        refine mg_sums f_Mod_110 d_Mod_goesAlong_103 ?_
        refine j_iload d_Mod_goesAlong_106 rfl ?_
        refine j_aload_n d_Mod_goesAlong_108 rfl ?_
        refine j_iload_n d_Mod_goesAlong_109 rfl ?_
        refine v_call1 d_Mod_goesAlong_110 c_Mod_276 rfl ⟨_, rfl, rfl⟩ (Nat.le_of_ble_eq_true rfl) (sumsOK (d := d + 49) hn0 hn1 hs hC e0 e1 (Or.inr rfl) 9 live _ 0 _ _ _ _ _ _ hS2 hl (Or.inl rfl) (fun y29 y30 => ?_))
        refine ms_sums d_Mod_goesAlong_113 (by omega) (by omega) ?_
        refine j_aload_n d_Mod_goesAlong_114 rfl ?_
        refine j_aload_n d_Mod_goesAlong_115 rfl ?_
        refine mg_sumsAre f_Mod_482 d_Mod_goesAlong_116 ?_
        refine z_if_eq (t := 133) d_Mod_goesAlong_119 (by decide) (by first | omega | exact hw _ | exact hx _ _ | assumption) (fun h119 => ?_) (fun h119 => ?_)
        · refine z_iconst d_Mod_goesAlong_133 ?_
          refine mp_sumsAre f_Mod_482 d_Mod_goesAlong_134 (by first | exact Or.inl rfl | exact Or.inr rfl | assumption | omega) ?_
          refine z_iinc d_Mod_goesAlong_137 rfl (by decide) ?_
          show SJ _ _ _ _ [_, _, _, _, _] _ _ _ _ _
          refine j_goto (t := 76) d_Mod_goesAlong_140 (by decide) ?_
          refine j_iload d_Mod_goesAlong_76 rfl ?_
          refine j_iload_n d_Mod_goesAlong_78 rfl ?_
          refine z_icmp_ge (t := 143) d_Mod_goesAlong_79 (by decide) (by first | omega | exact hw _ | exact hx _ _ | assumption) (by first | omega | exact hw _ | exact hx _ _ | assumption) (fun _ => ?_) (fun h => absurd h (by decide))
          refine SJ.mask [true, true, true, false, false] ?_
          show SJ _ _ _ _ [_, _, _, none, none] _ _ _ _ _
          first
          | (have hQ2 := hQ
             rw [if_pos (by omega)] at hQ2
             exact sj_ga hn0 hn1 hs hC e0 e1 hl hg2 hg3 hg4 hti hif hQ2)
          | (have hQ2 := hQ
             rw [if_neg (by omega)] at hQ2
             exact sj_ga hn0 hn1 hs hC e0 e1 hl hg2 hg3 hg4 hti hif hQ2)
        · refine j_aload_n d_Mod_goesAlong_122 rfl ?_
          refine mg_broken f_Mod_259 d_Mod_goesAlong_123 ?_
          refine z_if_ne (t := 133) d_Mod_goesAlong_126 (by decide) (by first | omega | exact hw _ | exact hx _ _ | assumption) (fun h126 => ?_) (fun h126 => ?_)
          · refine z_iconst d_Mod_goesAlong_133 ?_
            refine mp_sumsAre f_Mod_482 d_Mod_goesAlong_134 (by first | exact Or.inl rfl | exact Or.inr rfl | assumption | omega) ?_
            refine z_iinc d_Mod_goesAlong_137 rfl (by decide) ?_
            show SJ _ _ _ _ [_, _, _, _, _] _ _ _ _ _
            refine j_goto (t := 76) d_Mod_goesAlong_140 (by decide) ?_
            refine j_iload d_Mod_goesAlong_76 rfl ?_
            refine j_iload_n d_Mod_goesAlong_78 rfl ?_
            refine z_icmp_ge (t := 143) d_Mod_goesAlong_79 (by decide) (by first | omega | exact hw _ | exact hx _ _ | assumption) (by first | omega | exact hw _ | exact hx _ _ | assumption) (fun _ => ?_) (fun h => absurd h (by decide))
            refine SJ.mask [true, true, true, false, false] ?_
            show SJ _ _ _ _ [_, _, _, none, none] _ _ _ _ _
            first
            | (have hQ2 := hQ
               rw [if_pos (by omega)] at hQ2
               exact sj_ga hn0 hn1 hs hC e0 e1 hl hg2 hg3 hg4 hti hif hQ2)
            | (have hQ2 := hQ
               rw [if_neg (by omega)] at hQ2
               exact sj_ga hn0 hn1 hs hC e0 e1 hl hg2 hg3 hg4 hti hif hQ2)
          · refine z_iconst d_Mod_goesAlong_129 ?_
            refine j_goto (t := 134) d_Mod_goesAlong_130 (by decide) ?_
            refine mp_sumsAre f_Mod_482 d_Mod_goesAlong_134 (by first | exact Or.inl rfl | exact Or.inr rfl | assumption | omega) ?_
            refine z_iinc d_Mod_goesAlong_137 rfl (by decide) ?_
            show SJ _ _ _ _ [_, _, _, _, _] _ _ _ _ _
            refine j_goto (t := 76) d_Mod_goesAlong_140 (by decide) ?_
            refine j_iload d_Mod_goesAlong_76 rfl ?_
            refine j_iload_n d_Mod_goesAlong_78 rfl ?_
            refine z_icmp_ge (t := 143) d_Mod_goesAlong_79 (by decide) (by first | omega | exact hw _ | exact hx _ _ | assumption) (by first | omega | exact hw _ | exact hx _ _ | assumption) (fun _ => ?_) (fun h => absurd h (by decide))
            refine SJ.mask [true, true, true, false, false] ?_
            show SJ _ _ _ _ [_, _, _, none, none] _ _ _ _ _
            first
            | (have hQ2 := hQ
               rw [if_pos (by omega)] at hQ2
               exact sj_ga hn0 hn1 hs hC e0 e1 hl hg2 hg3 hg4 hti hif hQ2)
            | (have hQ2 := hQ
               rw [if_neg (by omega)] at hQ2
               exact sj_ga hn0 hn1 hs hC e0 e1 hl hg2 hg3 hg4 hti hif hQ2)
      · refine j_aload_n d_Mod_goesAlong_122 rfl ?_
        refine mg_broken f_Mod_259 d_Mod_goesAlong_123 ?_
        refine z_if_ne (t := 133) d_Mod_goesAlong_126 (by decide) (by first | omega | exact hw _ | exact hx _ _ | assumption) (fun h126 => ?_) (fun h126 => ?_)
        · refine z_iconst d_Mod_goesAlong_133 ?_
          refine mp_sumsAre f_Mod_482 d_Mod_goesAlong_134 (by first | exact Or.inl rfl | exact Or.inr rfl | assumption | omega) ?_
          refine z_iinc d_Mod_goesAlong_137 rfl (by decide) ?_
          show SJ _ _ _ _ [_, _, _, _, _] _ _ _ _ _
          refine j_goto (t := 76) d_Mod_goesAlong_140 (by decide) ?_
          refine j_iload d_Mod_goesAlong_76 rfl ?_
          refine j_iload_n d_Mod_goesAlong_78 rfl ?_
          refine z_icmp_ge (t := 143) d_Mod_goesAlong_79 (by decide) (by first | omega | exact hw _ | exact hx _ _ | assumption) (by first | omega | exact hw _ | exact hx _ _ | assumption) (fun h => absurd h (by decide)) (fun _ => ?_)
          refine j_iload d_Mod_goesAlong_82 rfl ?_
          refine z_if_le (t := 97) d_Mod_goesAlong_84 (by decide) (by first | omega | exact hw _ | exact hx _ _ | assumption) (fun h => absurd h (by decide)) (fun _ => ?_)
          refine j_aload_n d_Mod_goesAlong_87 rfl ?_
          refine j_dup d_Mod_goesAlong_88 rfl ?_
          refine mg_go f_Mod_249 d_Mod_goesAlong_89 ?_
          refine z_iconst d_Mod_goesAlong_92 ?_
          refine z_iadd d_Mod_goesAlong_93 ?_
          refine mp_go f_Mod_249 d_Mod_goesAlong_94 ?_
          refine j_aload_n d_Mod_goesAlong_97 rfl ?_
          refine z_iconst d_Mod_goesAlong_98 ?_
          refine mp_broken f_Mod_259 d_Mod_goesAlong_99 (by first | exact Or.inl rfl | exact Or.inr rfl | assumption | omega) ?_
          refine j_aload_n d_Mod_goesAlong_102 rfl ?_
          refine mg_sums f_Mod_110 d_Mod_goesAlong_103 ?_
          refine j_iload d_Mod_goesAlong_106 rfl ?_
          refine j_aload_n d_Mod_goesAlong_108 rfl ?_
          refine j_iload_n d_Mod_goesAlong_109 rfl ?_
          refine v_call1 d_Mod_goesAlong_110 c_Mod_276 rfl ⟨_, rfl, rfl⟩ (Nat.le_of_ble_eq_true rfl) (sumsOK (d := d + 49) hn0 hn1 hs hC e0 e1 (Or.inr rfl) 9 live _ 0 _ _ _ _ _ _ hS2 hl (Or.inl rfl) (fun y29 y30 => ?_))
          refine ms_sums d_Mod_goesAlong_113 (by omega) (by omega) ?_
          refine j_aload_n d_Mod_goesAlong_114 rfl ?_
          refine j_aload_n d_Mod_goesAlong_115 rfl ?_
          refine mg_sumsAre f_Mod_482 d_Mod_goesAlong_116 ?_
          refine z_if_eq (t := 133) d_Mod_goesAlong_119 (by decide) (by first | omega | exact hw _ | exact hx _ _ | assumption) (fun h119 => ?_) (fun h119 => ?_)
          · refine z_iconst d_Mod_goesAlong_133 ?_
            refine mp_sumsAre f_Mod_482 d_Mod_goesAlong_134 (by first | exact Or.inl rfl | exact Or.inr rfl | assumption | omega) ?_
            refine z_iinc d_Mod_goesAlong_137 rfl (by decide) ?_
            show SJ _ _ _ _ [_, _, _, _, _] _ _ _ _ _
            refine j_goto (t := 76) d_Mod_goesAlong_140 (by decide) ?_
            refine j_iload d_Mod_goesAlong_76 rfl ?_
            refine j_iload_n d_Mod_goesAlong_78 rfl ?_
            refine z_icmp_ge (t := 143) d_Mod_goesAlong_79 (by decide) (by first | omega | exact hw _ | exact hx _ _ | assumption) (by first | omega | exact hw _ | exact hx _ _ | assumption) (fun _ => ?_) (fun h => absurd h (by decide))
            refine SJ.mask [true, true, true, false, false] ?_
            show SJ _ _ _ _ [_, _, _, none, none] _ _ _ _ _
            first
            | (have hQ2 := hQ
               rw [if_pos (by omega)] at hQ2
               exact sj_ga hn0 hn1 hs hC e0 e1 hl hg2 hg3 hg4 hti hif hQ2)
            | (have hQ2 := hQ
               rw [if_neg (by omega)] at hQ2
               exact sj_ga hn0 hn1 hs hC e0 e1 hl hg2 hg3 hg4 hti hif hQ2)
          · refine j_aload_n d_Mod_goesAlong_122 rfl ?_
            refine mg_broken f_Mod_259 d_Mod_goesAlong_123 ?_
            refine z_if_ne (t := 133) d_Mod_goesAlong_126 (by decide) (by first | omega | exact hw _ | exact hx _ _ | assumption) (fun h126 => ?_) (fun h126 => ?_)
            · refine z_iconst d_Mod_goesAlong_133 ?_
              refine mp_sumsAre f_Mod_482 d_Mod_goesAlong_134 (by first | exact Or.inl rfl | exact Or.inr rfl | assumption | omega) ?_
              refine z_iinc d_Mod_goesAlong_137 rfl (by decide) ?_
              show SJ _ _ _ _ [_, _, _, _, _] _ _ _ _ _
              refine j_goto (t := 76) d_Mod_goesAlong_140 (by decide) ?_
              refine j_iload d_Mod_goesAlong_76 rfl ?_
              refine j_iload_n d_Mod_goesAlong_78 rfl ?_
              refine z_icmp_ge (t := 143) d_Mod_goesAlong_79 (by decide) (by first | omega | exact hw _ | exact hx _ _ | assumption) (by first | omega | exact hw _ | exact hx _ _ | assumption) (fun _ => ?_) (fun h => absurd h (by decide))
              refine SJ.mask [true, true, true, false, false] ?_
              show SJ _ _ _ _ [_, _, _, none, none] _ _ _ _ _
              first
              | (have hQ2 := hQ
                 rw [if_pos (by omega)] at hQ2
                 exact sj_ga hn0 hn1 hs hC e0 e1 hl hg2 hg3 hg4 hti hif hQ2)
              | (have hQ2 := hQ
                 rw [if_neg (by omega)] at hQ2
                 exact sj_ga hn0 hn1 hs hC e0 e1 hl hg2 hg3 hg4 hti hif hQ2)
            · refine z_iconst d_Mod_goesAlong_129 ?_
              refine j_goto (t := 134) d_Mod_goesAlong_130 (by decide) ?_
              refine mp_sumsAre f_Mod_482 d_Mod_goesAlong_134 (by first | exact Or.inl rfl | exact Or.inr rfl | assumption | omega) ?_
              refine z_iinc d_Mod_goesAlong_137 rfl (by decide) ?_
              show SJ _ _ _ _ [_, _, _, _, _] _ _ _ _ _
              refine j_goto (t := 76) d_Mod_goesAlong_140 (by decide) ?_
              refine j_iload d_Mod_goesAlong_76 rfl ?_
              refine j_iload_n d_Mod_goesAlong_78 rfl ?_
              refine z_icmp_ge (t := 143) d_Mod_goesAlong_79 (by decide) (by first | omega | exact hw _ | exact hx _ _ | assumption) (by first | omega | exact hw _ | exact hx _ _ | assumption) (fun _ => ?_) (fun h => absurd h (by decide))
              refine SJ.mask [true, true, true, false, false] ?_
              show SJ _ _ _ _ [_, _, _, none, none] _ _ _ _ _
              first
              | (have hQ2 := hQ
                 rw [if_pos (by omega)] at hQ2
                 exact sj_ga hn0 hn1 hs hC e0 e1 hl hg2 hg3 hg4 hti hif hQ2)
              | (have hQ2 := hQ
                 rw [if_neg (by omega)] at hQ2
                 exact sj_ga hn0 hn1 hs hC e0 e1 hl hg2 hg3 hg4 hti hif hQ2)
        · refine z_iconst d_Mod_goesAlong_129 ?_
          refine j_goto (t := 134) d_Mod_goesAlong_130 (by decide) ?_
          refine mp_sumsAre f_Mod_482 d_Mod_goesAlong_134 (by first | exact Or.inl rfl | exact Or.inr rfl | assumption | omega) ?_
          refine z_iinc d_Mod_goesAlong_137 rfl (by decide) ?_
          show SJ _ _ _ _ [_, _, _, _, _] _ _ _ _ _
          refine j_goto (t := 76) d_Mod_goesAlong_140 (by decide) ?_
          refine j_iload d_Mod_goesAlong_76 rfl ?_
          refine j_iload_n d_Mod_goesAlong_78 rfl ?_
          refine z_icmp_ge (t := 143) d_Mod_goesAlong_79 (by decide) (by first | omega | exact hw _ | exact hx _ _ | assumption) (by first | omega | exact hw _ | exact hx _ _ | assumption) (fun h => absurd h (by decide)) (fun _ => ?_)
          refine j_iload d_Mod_goesAlong_82 rfl ?_
          refine z_if_le (t := 97) d_Mod_goesAlong_84 (by decide) (by first | omega | exact hw _ | exact hx _ _ | assumption) (fun h => absurd h (by decide)) (fun _ => ?_)
          refine j_aload_n d_Mod_goesAlong_87 rfl ?_
          refine j_dup d_Mod_goesAlong_88 rfl ?_
          refine mg_go f_Mod_249 d_Mod_goesAlong_89 ?_
          refine z_iconst d_Mod_goesAlong_92 ?_
          refine z_iadd d_Mod_goesAlong_93 ?_
          refine mp_go f_Mod_249 d_Mod_goesAlong_94 ?_
          refine j_aload_n d_Mod_goesAlong_97 rfl ?_
          refine z_iconst d_Mod_goesAlong_98 ?_
          refine mp_broken f_Mod_259 d_Mod_goesAlong_99 (by first | exact Or.inl rfl | exact Or.inr rfl | assumption | omega) ?_
          refine j_aload_n d_Mod_goesAlong_102 rfl ?_
          refine mg_sums f_Mod_110 d_Mod_goesAlong_103 ?_
          refine j_iload d_Mod_goesAlong_106 rfl ?_
          refine j_aload_n d_Mod_goesAlong_108 rfl ?_
          refine j_iload_n d_Mod_goesAlong_109 rfl ?_
          refine v_call1 d_Mod_goesAlong_110 c_Mod_276 rfl ⟨_, rfl, rfl⟩ (Nat.le_of_ble_eq_true rfl) (sumsOK (d := d + 49) hn0 hn1 hs hC e0 e1 (Or.inr rfl) 9 live _ 0 _ _ _ _ _ _ hS2 hl (Or.inl rfl) (fun y29 y30 => ?_))
          refine ms_sums d_Mod_goesAlong_113 (by omega) (by omega) ?_
          refine j_aload_n d_Mod_goesAlong_114 rfl ?_
          refine j_aload_n d_Mod_goesAlong_115 rfl ?_
          refine mg_sumsAre f_Mod_482 d_Mod_goesAlong_116 ?_
          refine z_if_eq (t := 133) d_Mod_goesAlong_119 (by decide) (by first | omega | exact hw _ | exact hx _ _ | assumption) (fun h119 => ?_) (fun h119 => ?_)
          · refine z_iconst d_Mod_goesAlong_133 ?_
            refine mp_sumsAre f_Mod_482 d_Mod_goesAlong_134 (by first | exact Or.inl rfl | exact Or.inr rfl | assumption | omega) ?_
            refine z_iinc d_Mod_goesAlong_137 rfl (by decide) ?_
            show SJ _ _ _ _ [_, _, _, _, _] _ _ _ _ _
            refine j_goto (t := 76) d_Mod_goesAlong_140 (by decide) ?_
            refine j_iload d_Mod_goesAlong_76 rfl ?_
            refine j_iload_n d_Mod_goesAlong_78 rfl ?_
            refine z_icmp_ge (t := 143) d_Mod_goesAlong_79 (by decide) (by first | omega | exact hw _ | exact hx _ _ | assumption) (by first | omega | exact hw _ | exact hx _ _ | assumption) (fun _ => ?_) (fun h => absurd h (by decide))
            refine SJ.mask [true, true, true, false, false] ?_
            show SJ _ _ _ _ [_, _, _, none, none] _ _ _ _ _
            first
            | (have hQ2 := hQ
               rw [if_pos (by omega)] at hQ2
               exact sj_ga hn0 hn1 hs hC e0 e1 hl hg2 hg3 hg4 hti hif hQ2)
            | (have hQ2 := hQ
               rw [if_neg (by omega)] at hQ2
               exact sj_ga hn0 hn1 hs hC e0 e1 hl hg2 hg3 hg4 hti hif hQ2)
          · refine j_aload_n d_Mod_goesAlong_122 rfl ?_
            refine mg_broken f_Mod_259 d_Mod_goesAlong_123 ?_
            refine z_if_ne (t := 133) d_Mod_goesAlong_126 (by decide) (by first | omega | exact hw _ | exact hx _ _ | assumption) (fun h126 => ?_) (fun h126 => ?_)
            · refine z_iconst d_Mod_goesAlong_133 ?_
              refine mp_sumsAre f_Mod_482 d_Mod_goesAlong_134 (by first | exact Or.inl rfl | exact Or.inr rfl | assumption | omega) ?_
              refine z_iinc d_Mod_goesAlong_137 rfl (by decide) ?_
              show SJ _ _ _ _ [_, _, _, _, _] _ _ _ _ _
              refine j_goto (t := 76) d_Mod_goesAlong_140 (by decide) ?_
              refine j_iload d_Mod_goesAlong_76 rfl ?_
              refine j_iload_n d_Mod_goesAlong_78 rfl ?_
              refine z_icmp_ge (t := 143) d_Mod_goesAlong_79 (by decide) (by first | omega | exact hw _ | exact hx _ _ | assumption) (by first | omega | exact hw _ | exact hx _ _ | assumption) (fun _ => ?_) (fun h => absurd h (by decide))
              refine SJ.mask [true, true, true, false, false] ?_
              show SJ _ _ _ _ [_, _, _, none, none] _ _ _ _ _
              first
              | (have hQ2 := hQ
                 rw [if_pos (by omega)] at hQ2
                 exact sj_ga hn0 hn1 hs hC e0 e1 hl hg2 hg3 hg4 hti hif hQ2)
              | (have hQ2 := hQ
                 rw [if_neg (by omega)] at hQ2
                 exact sj_ga hn0 hn1 hs hC e0 e1 hl hg2 hg3 hg4 hti hif hQ2)
            · refine z_iconst d_Mod_goesAlong_129 ?_
              refine j_goto (t := 134) d_Mod_goesAlong_130 (by decide) ?_
              refine mp_sumsAre f_Mod_482 d_Mod_goesAlong_134 (by first | exact Or.inl rfl | exact Or.inr rfl | assumption | omega) ?_
              refine z_iinc d_Mod_goesAlong_137 rfl (by decide) ?_
              show SJ _ _ _ _ [_, _, _, _, _] _ _ _ _ _
              refine j_goto (t := 76) d_Mod_goesAlong_140 (by decide) ?_
              refine j_iload d_Mod_goesAlong_76 rfl ?_
              refine j_iload_n d_Mod_goesAlong_78 rfl ?_
              refine z_icmp_ge (t := 143) d_Mod_goesAlong_79 (by decide) (by first | omega | exact hw _ | exact hx _ _ | assumption) (by first | omega | exact hw _ | exact hx _ _ | assumption) (fun _ => ?_) (fun h => absurd h (by decide))
              refine SJ.mask [true, true, true, false, false] ?_
              show SJ _ _ _ _ [_, _, _, none, none] _ _ _ _ _
              first
              | (have hQ2 := hQ
                 rw [if_pos (by omega)] at hQ2
                 exact sj_ga hn0 hn1 hs hC e0 e1 hl hg2 hg3 hg4 hti hif hQ2)
              | (have hQ2 := hQ
                 rw [if_neg (by omega)] at hQ2
                 exact sj_ga hn0 hn1 hs hC e0 e1 hl hg2 hg3 hg4 hti hif hQ2)
    · exfalso
      omega
  · exfalso
    omega
