/-! PURE: orders, as they run -/
def sm (v : Int) : Int := if 0 ≤ v ∧ v ≤ 1000000 then v else -1
/-- the row, what can be undone, how many, done, latest -/
abbrev OS : Type := (Int → Int) × (Int → Int) × Int × Int × Int
def obK (hd v1 v2 : Int) (S : OS) : Option OS :=
  if hd = 23 then (if cuR S.1 (sm v1) < 0 then none else some (cutK S.1 (sm v1), kpL S.1 S.2.1 S.2.2.1 1, shU S.2.2.1 + 1, S.2.2.2.1, S.2.2.2.2))
  else if hd = 24 then (if tuR S.1 (sm v1) (sm v2) < 0 then none else some (up S.1 (1 + sm v1) (sm v2), kpL S.1 S.2.1 S.2.2.1 2, shU S.2.2.1 + 1, S.2.2.2.1, S.2.2.2.2))
  else if hd = 26 then (if paR S.1 < 0 then none else some (up S.1 21 (S.1 21 + 1), kpL S.1 S.2.1 S.2.2.1 3, shU S.2.2.1 + 1, S.2.2.2.1, S.2.2.2.2))
  else (if puR S.1 (sm v1) (sm v2) < 0 then none else some (putK S.1 (sm v1) (sm v2), kpL S.1 S.2.1 S.2.2.1 0, shU S.2.2.1 + 1, S.2.2.2.1, puR S.1 (sm v1) (sm v2)))
def su1 (q : CXC) (wv : Int → Int → Int) : Option Int := match q.2.1 with
  | some a => a.1 wv
  | none => some 0
def su2 (q : CXC) (wv : Int → Int → Int) : Option Int := match q.2.2.1 with
  | some a => a.1 wv
  | none => some 0
def onO (q : CXC) (S : OS) : Option OS :=
  if tstV q (ow S.1 S.2.2.2.1 S.2.2.2.2) = some 1 then (match su1 q (ow S.1 S.2.2.2.1 S.2.2.2.2), su2 q (ow S.1 S.2.2.2.1 S.2.2.2.2) with
    | some v1, some v2 => (match obK q.1 v1 v2 S with
      | some T => some (T.1, T.2.1, T.2.2.1, T.2.2.2.1 + 1, T.2.2.2.2)
      | none => none)
    | _, _ => none)
  else some S
def tmO (q : CXC) : Nat → OS → Option OS
  | 0, S => some S
  | n + 1, S => match onO q S with
    | some T => tmO q n T
    | none => none
def ruO : List CXC → Int → OS → Sum OS Int
  | [], _, S => .inl S
  | q :: qs, n, S => match tmO q q.2.2.2.1.toNat S with
    | some T => ruO qs (n + 1) T
    | none => .inr n
theorem EvS.exL {S' : Int → Int → Int → EV} {b tk t live : Int} {o : Option Int} (hl : live = 0 ∨ live = 1) (h : EvS S' b o tk t) : ∃ v1 b1, S' live (b + tk) 0 = some (v1, b + t, b1) ∧ rgo v1 ∧ b01 b1 ∧ (live = 1 → rep o v1 b1) := by
  rcases hl with rfl | rfl
  · exact ⟨0, 0, h.1 0 0 ⟨Or.inl rfl, Or.inl rfl, Or.inl rfl⟩, by omega, Or.inl rfl, fun q => absurd q (by decide)⟩
  · obtain ⟨v, b1, h1, h2, h3, h4⟩ := h.ex
    exact ⟨v, b1, h1, h2, h3, fun _ => h4⟩
theorem EvB.exL {T' : Int → Int → Int → EV} {b tk t live : Int} {o : Option Int} (hl : live = 0 ∨ live = 1) (h : EvB T' b o tk t) : ∃ v1 b1, T' live (b + tk) 0 = some (v1, b + t, b1) ∧ b01 v1 ∧ b01 b1 ∧ (live = 1 → rep o v1 b1) := by
  rcases hl with rfl | rfl
  · obtain ⟨v, hv, e⟩ := h.1 0 0 ⟨Or.inl rfl, Or.inl rfl, Or.inl rfl⟩
    exact ⟨v, 0, e, hv, Or.inl rfl, fun q => absurd q (by decide)⟩
  · obtain ⟨v, b1, h1, h2, h3, h4⟩ := h.ex
    exact ⟨v, b1, h1, h2, h3, fun _ => h4⟩
theorem rep_s {o : Option Int} {v b : Int} (h : rep o v b) : (b = 0 ↔ o.isSome = true) ∧ (∀ w, o = some w → v = w) := by
  rcases h with ⟨rfl, rfl⟩ | ⟨rfl, rfl⟩
  · exact ⟨⟨fun _ => rfl, fun _ => rfl⟩, fun w hw => Option.some.inj hw⟩
  · exact ⟨⟨fun q => absurd q (by decide), fun q => by cases q⟩, fun w hw => by cases hw⟩
theorem rep_1 {o : Option Int} {v b : Int} (h : rep o v b) : (v = 1 ∧ b = 0) ↔ o = some 1 := by
  rcases h with ⟨rfl, rfl⟩ | ⟨rfl, rfl⟩
  · exact ⟨fun q => by rw [q.1], fun q => ⟨Option.some.inj q, rfl⟩⟩
  · exact ⟨fun q => absurd q.2 (by decide), fun q => by cases q⟩
theorem ga_tail {C V C' V' : Int → Int} {b N : Int} {wv : Int → Int → Int} (hT : TkF C V C' V' b N) (hw : ∀ c k, 14 ≤ c → c ≤ 20 → rgo (wv c k)) {live hd : Int} (hl : live = 0 ∨ live = 1) {a b2 : Option SXC} {t2 l2 : Int} {q : CXC} {t l : Int} (h : pTm C V (pT C V 1 14 20 9) hd a b2 t2 l2 = .inl (q, t, l)) (h1 : 1 ≤ t2) (h2 : t2 ≤ N) (h3 : 0 ≤ l2) (h4 : l2 ≤ 50) :
    ∃ g3 tv tb, (0 ≤ g3 ∧ g3 ≤ 2800) ∧ (t2 ≤ t ∧ t ≤ N) ∧ ((¬ C' (b + t2) = 27 ∧ q.2.2.2.1 = 1 ∧ g3 = b + t2) ∨ (C' (b + t2) = 27 ∧ b + t2 + 1 ≤ 2799 ∧ q.2.2.2.1 = V' (b + t2 + 1) ∧ g3 = b + t2 + 2)) ∧ Hd ((¬ C' g3 = 5 ∧ tv = 1 ∧ tb = 0 ∧ b + t = g3) ∨ (C' g3 = 5 ∧ tsE C' (sE C' V' wv 1 9) 9 live (g3 + 1) 0 = some (tv, b + t, tb) ∧ b01 tv ∧ b01 tb)) ∧ b01 tv ∧ b01 tb ∧ (live = 1 → rep (tstV q wv) tv tb) ∧ q.1 = hd ∧ q.2.1 = a ∧ q.2.2.1 = b2 := by
  have hio : ((1 : Int) = 0 ∧ (14 : Int) = 9 ∧ (20 : Int) = 16) ∨ ((1 : Int) = 1 ∧ (14 : Int) = 14 ∧ (20 : Int) = 20) := Or.inr ⟨rfl, rfl, rfl⟩
  have hET := ev_T hT hio hw 9 9 9 (Nat.le_refl _) (Nat.le_refl _)
  have hGT := pT_R (C := C) (V := V) (io := 1) (fw := 14) (lw := 20) hT.2.1 (by decide) 9
  obtain ⟨⟨hb0, hbN, hN4⟩, hNe, hC, hV⟩ := hT
  have key : ∀ (tm t3 : Int), pTail C (pT C V 1 14 20 9) hd a b2 tm t3 l2 = .inl (q, t, l) → 1 ≤ t3 → t3 ≤ N → ∃ tv tb, (t3 ≤ t ∧ t ≤ N) ∧ Hd ((¬ C' (b + t3) = 5 ∧ tv = 1 ∧ tb = 0 ∧ b + t = b + t3) ∨ (C' (b + t3) = 5 ∧ tsE C' (sE C' V' wv 1 9) 9 live (b + t3 + 1) 0 = some (tv, b + t, tb) ∧ b01 tv ∧ b01 tb)) ∧ b01 tv ∧ b01 tb ∧ (live = 1 → rep (tstV q wv) tv tb) ∧ q.2.2.2.1 = tm ∧ q.1 = hd ∧ q.2.1 = a ∧ q.2.2.1 = b2 := by
    intro tm t3 hP k1 k2
    have hC3 := hC t3 (by omega) k2
    rcases pTail_inv hP with ⟨c, e⟩ | ⟨c, x, t4, l4, e1, e2⟩
    · have e1 := (Prod.mk.inj e).1
      have e2 := (Prod.mk.inj (Prod.mk.inj e).2).1
      subst e1 e2
      exact ⟨1, 0, by omega, Or.inl ⟨by rw [hC3]; exact c, rfl, rfl, rfl⟩, Or.inr rfl, Or.inl rfl, fun _ => Or.inl ⟨rfl, rfl⟩, rfl, rfl, rfl, rfl⟩
    · have z1 := (Prod.mk.inj e2).1
      have z2 := (Prod.mk.inj (Prod.mk.inj e2).2).1
      subst z1 z2
      have hne : t3 ≠ N := fun e => by rw [e, hNe] at c; omega
      have hg := (hGT (t3 + 1) l2 (by omega) (by omega) h3 h4).1 _ _ _ e1
      obtain ⟨tv, tb, f1, f2, f3, f4⟩ := (hET (t3 + 1) l2 _ _ _ (by omega) (by omega) h3 h4 e1).exL hl
      refine ⟨tv, tb, by omega, Or.inr ⟨by rw [hC3]; exact c, ?_, f2, f3⟩, f2, f3, f4, rfl, rfl, rfl, rfl⟩
      rw [show b + t3 + 1 = b + (t3 + 1) by omega]
      exact f1
  have hC2 := hC t2 (by omega) h2
  rcases pTm_inv h with ⟨c, c2, e⟩ | ⟨c, e⟩
  · have hne : t2 ≠ N := fun e => by rw [e, hNe] at c; omega
    have hne1 : t2 + 1 ≠ N := fun e => by rw [e, hNe] at c2; omega
    obtain ⟨tv, tb, k1, k2, k3, k4, k5, k6, k7⟩ := key _ (t2 + 2) e (by omega) (by omega)
    have hv := (hV (t2 + 1) (by omega) (by omega)).1
    refine ⟨b + (t2 + 2), tv, tb, by omega, by omega, Or.inr ⟨by rw [hC2]; exact c, by omega, ?_, by omega⟩, k2, k3, k4, k5, k7⟩
    rw [k6, show b + t2 + 1 = b + (t2 + 1) by omega, hv]
  · obtain ⟨tv, tb, k1, k2, k3, k4, k5, k6, k7⟩ := key _ t2 e (by omega) (by omega)
    exact ⟨b + t2, tv, tb, by omega, by omega, Or.inl ⟨by rw [hC2]; exact c, k6, rfl⟩, k2, k3, k4, k5, k7⟩
theorem wvM_1 {x26 K : Int → Int} {dn lt : Int} : wvM 1 x26 K dn lt = ow K dn lt := by
  funext c k
  unfold wvM
  rw [if_pos rfl]
theorem sm_R (v : Int) : -1 ≤ sm v ∧ sm v ≤ 1000000 := by
  unfold sm
  split <;> omega
/-- what stays while orders run -/
theorem obK_k {hd v1 v2 : Int} {S T : OS} (hk : KOK S.1) (h : obK hd v1 v2 S = some T) : KOK T.1 ∧ (∀ j, 22 ≤ j → T.1 j = S.1 j) ∧ (0 ≤ S.2.2.1 → S.2.2.1 ≤ 16 → 0 ≤ T.2.2.1 ∧ T.2.2.1 ≤ 16) ∧ T.2.2.2.1 = S.2.2.2.1 ∧ (T.2.2.2.2 = S.2.2.2.2 ∨ (0 ≤ T.2.2.2.2 ∧ T.2.2.2.2 ≤ 99)) := by
  have hKR := hk.1
  have hsh : 0 ≤ S.2.2.1 → S.2.2.1 ≤ 16 → 0 ≤ shU S.2.2.1 + 1 ∧ shU S.2.2.1 + 1 ≤ 16 := fun a b => by
    unfold shU
    split <;> omega
  unfold obK at h
  split at h
  · split at h
    · cases h
    · next c =>
      cases h
      have hp : 0 ≤ sm v1 ∧ sm v1 < S.1 0 := by
        unfold cuR at c
        by_cases q : 0 ≤ sm v1 ∧ sm v1 < S.1 0
        · exact q
        · rw [if_pos q] at c; exact absurd (by decide) c
      refine ⟨hk.cut hp.1 hp.2, fun j hj => ?_, hsh, rfl, Or.inl rfl⟩
      show cutK S.1 (sm v1) j = _
      have := hKR.1
      unfold cutK
      rw [up_ne (by omega)]
      unfold cpy
      rw [if_neg (by omega), up_ne (by omega)]
  · split at h
    · split at h
      · cases h
      · next c =>
        cases h
        have hp : (0 ≤ sm v2 ∧ sm v2 ≤ 11) ∧ (0 ≤ sm v1 ∧ sm v1 < S.1 0) := by
          unfold tuR at c
          by_cases q1 : 0 ≤ sm v2 ∧ sm v2 ≤ 11
          · rw [if_neg (fun z => z q1)] at c
            by_cases q : 0 ≤ sm v1 ∧ sm v1 < S.1 0
            · exact ⟨q1, q⟩
            · rw [if_pos q] at c; exact absurd (by decide) c
          · rw [if_pos q1] at c; exact absurd (by decide) c
        have := hKR.1
        exact ⟨hk.turn hp.2.1 hp.2.2 hp.1.1 hp.1.2, fun j hj => up_ne (by omega), hsh, rfl, Or.inl rfl⟩
    · split at h
      · split at h
        · cases h
        · next c =>
          cases h
          have hp : S.1 21 ≠ 999 := fun q => by
            unfold paR at c
            rw [if_pos q] at c
            exact absurd (by decide) c
          have := hKR.2.2.1
          exact ⟨hk.one (by omega) (fun _ => by omega) (fun q => by omega) (fun q => by omega), fun j hj => up_ne (by omega), hsh, rfl, Or.inl rfl⟩
      · split at h
        · cases h
        · next c =>
          cases h
          have hp : (0 ≤ sm v1 ∧ sm v1 ≤ 11) ∧ (0 ≤ sm v2 ∧ sm v2 ≤ S.1 0) ∧ ¬ S.1 0 = 20 ∧ puR S.1 (sm v1) (sm v2) = tl S.1 1 (sm v1) (sm v2) 1 := by
            have c' := c
            unfold puR at c'
            unfold puR
            by_cases q1 : 0 ≤ sm v1 ∧ sm v1 ≤ 11
            · rw [if_neg (fun z => z q1)] at c' ⊢
              by_cases q2 : 0 ≤ sm v2 ∧ sm v2 ≤ S.1 0
              · rw [if_neg (fun z => z q2)] at c' ⊢
                by_cases q3 : tl S.1 4 (sm v1) (sm v2) 0 = 1
                · rw [if_pos q3] at c'; exact absurd (by decide) c'
                · rw [if_neg q3] at c' ⊢
                  by_cases q4 : S.1 0 = 20
                  · rw [if_pos q4] at c'; exact absurd (by decide) c'
                  · rw [if_neg q4]
                    exact ⟨q1, q2, q4, rfl⟩
              · rw [if_pos q2] at c'; exact absurd (by decide) c'
            · rw [if_pos q1] at c'; exact absurd (by decide) c'
          have := hKR.1
          have hr := hk.hasR (head := 1) (s := sm v1) (p := sm v2) (wo := 1) hp.1.1 hp.1.2 hp.2.1.1 (by omega) (by omega)
          refine ⟨hk.put hp.1.1 hp.1.2 hp.2.1.1 hp.2.1.2 (by omega), fun j hj => ?_, hsh, rfl, Or.inr ?_⟩
          · show putK S.1 (sm v1) (sm v2) j = _
            unfold putK
            rw [up_ne (by omega), up_ne (by omega)]
            unfold cpy
            rw [if_neg (by omega)]
          · show 0 ≤ puR S.1 (sm v1) (sm v2) ∧ puR S.1 (sm v1) (sm v2) ≤ 99
            rw [hp.2.2.2]
            exact hr
