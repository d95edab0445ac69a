/-! PURE: deeds of orders; copies -/
theorem puR_Q {K : Int → Int} (h : KOK K) (s p : Int) : -6 ≤ puR K s p ∧ puR K s p ≤ 99 := by
  have hn := h.1.1.2
  unfold puR
  split
  · omega
  · next c1 =>
    split
    · omega
    · next c2 =>
      split
      · omega
      · split
        · omega
        · have := h.hasR (head := 1) (s := s) (p := p) (wo := 1) (by omega) (by omega) (by omega) (by omega) (by omega)
          omega
theorem cuR_Q {K : Int → Int} (h : KOK K) (p : Int) : -6 ≤ cuR K p ∧ cuR K p ≤ 99 := by
  have hn := h.1.1.2
  unfold cuR
  split
  · omega
  · next c2 =>
    have c3 : 0 ≤ p ∧ p < K 0 := by omega
    have hs := h.1.2.1 p c3.1 c3.2
    have := h.hasR (head := 2) (s := K (1 + p)) (p := p) (wo := 1) (by omega) (by omega) (by omega) (by omega) (by omega)
    omega
theorem tuR_Q {K : Int → Int} (h : KOK K) (p s : Int) : -6 ≤ tuR K p s ∧ tuR K p s ≤ 99 := by
  unfold tuR
  split
  · omega
  · split
    · omega
    · next c2 =>
      split
      · omega
      · have c3 : 0 ≤ p ∧ p < K 0 := by omega
        have hs := h.1.2.1 p c3.1 c3.2
        omega
section OBK
variable {K Z dk dl dg : Int → Int} {dz dn lt q1 s p : Int} {lc fo rn rl rp : Int} {rs rm rd tm : Int → Int}
theorem ob_put (hS : SI K lc fo rn rl rp rs rm rd tm) (hU : UR K Z dz dk dl dg) (e : q1 = 21) (hy : 0 ≤ puR K s p) (a1 : 0 ≤ s ∧ s ≤ 11) (a2 : 0 ≤ p ∧ p ≤ K 0) (a3 : K 0 < 20) : obK q1 s p (K, Z, dz, dn, lt) = some (putK K s p, kpL K Z dz 0, shU dz + 1, dn, puR K s p) ∧ SI (putK K s p) lc fo (rn + 1) rl 0 (up (cpy rs rs p (p + 1) (rn - p)) p s) rm rd tm ∧ UR (putK K s p) (kpL K Z dz 0) (shU dz + 1) (rmD dk dz 0) (rmD dl dz p) (rmD dg dz s) ∧ ∀ j, 22 ≤ j → putK K s p j = K j := by
  refine ⟨?_, hS.put a1.1 a1.2 a2.1 a2.2 a3, hU.rem hS.2.1.ks (UnS.put a2.1 a2.2 a3) (by omega), fun j hj => putK_hi a2.1 a2.2 a3 (by omega)⟩
  unfold obK
  rw [if_neg (by omega), if_neg (by omega), if_neg (by omega), sm_in (by omega), sm_in (by omega)]
  exact if_neg (show ¬ puR K s p < 0 by omega)
theorem ob_put_no (hK : K 0 ≤ 20) (e : q1 = 21) (hn : puR K s p < 0) : obK q1 s p (K, Z, dz, dn, lt) = none := by
  unfold obK
  rw [if_neg (by omega), if_neg (by omega), if_neg (by omega)]
  exact if_pos (show puR K (sm s) (sm p) < 0 by rw [puR_sm hK]; exact hn)
theorem ob_cut (hS : SI K lc fo rn rl rp rs rm rd tm) (hU : UR K Z dz dk dl dg) (e : q1 = 23) (hy : 0 ≤ cuR K s) (a2 : 0 ≤ s ∧ s < K 0) : obK q1 s p (K, Z, dz, dn, lt) = some (cutK K s, kpL K Z dz 1, shU dz + 1, dn, lt) ∧ SI (cutK K s) lc fo (rn - 1) rl 0 (cpy rs rs (s + 1) s (rn - s - 1)) rm rd tm ∧ UR (cutK K s) (kpL K Z dz 1) (shU dz + 1) (rmD dk dz 1) (rmD dl dz s) (rmD dg dz (rs s)) ∧ ∀ j, 22 ≤ j → cutK K s j = K j := by
  obtain ⟨⟨r1, r2, r3, -⟩, k, -⟩ := id hS
  refine ⟨?_, hS.cut a2.1 a2.2, hU.rem hS.2.1.ks (UnS.cut a2.1 a2.2 (by omega) (r3 s a2.1 (by omega)).1) (by omega), fun j hj => cutK_hi a2.1 a2.2 (by omega) (by omega)⟩
  unfold obK
  rw [if_pos e, sm_in (by omega)]
  exact if_neg (show ¬ cuR K s < 0 by omega)
theorem ob_cut_no (hK : K 0 ≤ 20) (e : q1 = 23) (hn : cuR K s < 0) : obK q1 s p (K, Z, dz, dn, lt) = none := by
  unfold obK
  rw [if_pos e]
  exact if_pos (show cuR K (sm s) < 0 by rw [cuR_sm hK]; exact hn)
theorem ob_turn (hS : SI K lc fo rn rl rp rs rm rd tm) (hU : UR K Z dz dk dl dg) (e : q1 = 24) (hy : 0 ≤ tuR K s p) (a1 : 0 ≤ p ∧ p ≤ 11) (a2 : 0 ≤ s ∧ s < K 0) : obK q1 s p (K, Z, dz, dn, lt) = some (up K (1 + s) p, kpL K Z dz 2, shU dz + 1, dn, lt) ∧ SI (up K (1 + s) p) lc fo rn rl 0 (up rs s p) rm rd tm ∧ UR (up K (1 + s) p) (kpL K Z dz 2) (shU dz + 1) (rmD dk dz 2) (rmD dl dz s) (rmD dg dz (rs s)) ∧ ∀ j, 22 ≤ j → up K (1 + s) p j = K j := by
  obtain ⟨⟨r1, r2, r3, -⟩, k, -⟩ := id hS
  refine ⟨?_, hS.turn a1.1 a1.2 a2.1 a2.2, hU.rem hS.2.1.ks (UnS.turn a2.1 a2.2 (by omega) (r3 s a2.1 (by omega)).1) (by omega), fun j hj => up_ne (by omega)⟩
  unfold obK
  rw [if_neg (by omega), if_pos e, sm_in (by omega), sm_in (by omega)]
  exact if_neg (show ¬ tuR K s p < 0 by omega)
theorem ob_turn_no (hK : K 0 ≤ 20) (e : q1 = 24) (hn : tuR K s p < 0) : obK q1 s p (K, Z, dz, dn, lt) = none := by
  unfold obK
  rw [if_neg (by omega), if_pos e]
  exact if_pos (show tuR K (sm s) (sm p) < 0 by rw [tuR_sm hK]; exact hn)
theorem ob_pass (hS : SI K lc fo rn rl rp rs rm rd tm) (hU : UR K Z dz dk dl dg) (e : q1 = 26) (hy : K 21 < 999) : obK q1 s p (K, Z, dz, dn, lt) = some (up K 21 (K 21 + 1), kpL K Z dz 3, shU dz + 1, dn, lt) ∧ SI (up K 21 (K 21 + 1)) lc fo rn rl rp rs rm rd (up tm 0 (tm 0 + 1)) ∧ UR (up K 21 (K 21 + 1)) (kpL K Z dz 3) (shU dz + 1) (rmD dk dz 3) (rmD dl dz 0) (rmD dg dz 0) ∧ ∀ j, 22 ≤ j → up K 21 (K 21 + 1) j = K j := by
  have k := hS.2.1
  have k3 := k.2.2.1
  refine ⟨?_, hS.pass hy, hU.rem k.ks (UnS.pass k.1.2) (by omega), fun j hj => up_ne (by omega)⟩
  unfold obK
  rw [if_neg (by omega), if_neg (by omega), if_pos e]
  refine if_neg (show ¬ paR K < 0 from ?_)
  unfold paR
  rw [if_neg (by omega)]
  omega
theorem ob_pass_no (e : q1 = 26) (hn : K 21 = 999) : obK q1 s p (K, Z, dz, dn, lt) = none := by
  unfold obK
  rw [if_neg (by omega), if_neg (by omega), if_pos e]
  refine if_pos (show paR K < 0 from ?_)
  unfold paR
  rw [if_pos hn]
  decide
end OBK
theorem SI.copy {K : Int → Int} {lc fo rn rl rp rl' : Int} {rs rm rd tm rs' rm' rd' tm' : Int → Int} (h : SI K lc fo rn rl rp rs rm rd tm) : SI K lc fo rn rl' 0 (cpy rs rs' 0 0 20) rm' rd' (cpy tm tm' 0 0 3) := by
  obtain ⟨⟨a1, a2, a3, -⟩, k, t0, t1, t2, l1, l2⟩ := h
  refine ⟨⟨a1, a2, fun j j0 j1 => ?_, Or.inl rfl, fun q => absurd q (by decide)⟩, k, ?_, ?_, ?_, l1, l2⟩
  · rw [cpy_in (by omega) (by omega), show (0 : Int) + (j - 0) = j by omega]
    exact a3 j j0 j1
  · rw [cpy_in (by omega) (by omega)]; exact t0
  · rw [cpy_in (by omega) (by omega)]; exact t1
  · rw [cpy_in (by omega) (by omega)]; exact t2
theorem UR.copy {K Z dk dl dg dk' dl' dg' : Int → Int} {u : Int} (h : UR K Z u dk dl dg) : UR K Z u (cpy dk dk' 0 0 16) (cpy dl dl' 0 0 16) (cpy dg dg' 0 0 16) := by
  obtain ⟨h1, h2, h3⟩ := h
  have e : ∀ (x y : Int → Int) (j : Int), 0 ≤ j → j < 16 → cpy x y 0 0 16 j = x j := fun x y j j0 j1 => by
    rw [cpy_in (by omega) (by omega), show (0 : Int) + (j - 0) = j by omega]
  refine ⟨h1, fun j j0 j1 => by rw [e _ _ j j0 j1]; exact h2 j j0 j1, fun j j0 j1 => ?_⟩
  rw [e _ _ j j0 (by omega), e _ _ j j0 (by omega), e _ _ j j0 (by omega)]
  exact h3 j j0 j1
theorem LXV.eq {lx mx : Nat → Option Nat} {ts : List TD} (h : LXV mx ts) (e : ∀ f, f < 6 → lx f = mx f) : LXV lx ts := fun f j hf hj => h f j hf (by rw [← e f hf]; exact hj)
theorem LXV.grow {mx : Nat → Option Nat} {ts ts' : List TD} (h : LXV mx ts) (e : ts.length ≤ ts'.length) : LXV mx ts' := fun f j hf hj => Nat.lt_of_lt_of_le (h f j hf hj) e
theorem tmO_y {q : CXC} {n : Nat} {S T : OS} (h : onO q S = some T) : tmO q (n + 1) S = tmO q n T := by
  show (match onO q S with
    | some T => tmO q n T
    | none => none) = _
  rw [h]
theorem tmO_e {q : CXC} {n : Nat} {S : OS} (h : onO q S = none) : tmO q (n + 1) S = none := by
  show (match onO q S with
    | some T => tmO q n T
    | none => none) = _
  rw [h]
theorem ruO_y {q : CXC} {qs : List CXC} {n : Int} {S T : OS} (h : tmO q q.2.2.2.1.toNat S = some T) : ruO (q :: qs) n S = ruO qs (n + 1) T := by
  show (match tmO q q.2.2.2.1.toNat S with
    | some T => ruO qs (n + 1) T
    | none => .inr n) = _
  rw [h]
theorem ruO_e {q : CXC} {qs : List CXC} {n : Int} {S : OS} (h : tmO q q.2.2.2.1.toNat S = none) : ruO (q :: qs) n S = .inr n := by
  show (match tmO q q.2.2.2.1.toNat S with
    | some T => ruO qs (n + 1) T
    | none => .inr n) = _
  rw [h]
theorem onO_lt {q : CXC} {S T : OS} (hk : KOK S.1) (h : onO q S = some T) (l0 : -1 ≤ S.2.2.2.2 ∧ S.2.2.2.2 ≤ 99) : (T.2.2.2.1 = S.2.2.2.1 ∨ T.2.2.2.1 = S.2.2.2.1 + 1) ∧ (-1 ≤ T.2.2.2.2 ∧ T.2.2.2.2 ≤ 99) := by
  unfold onO at h
  split at h
  · split at h
    · next v1 v2 _ _ =>
      cases ho : obK q.1 v1 v2 S with
      | none => rw [ho] at h; cases h
      | some T' =>
        rw [ho] at h
        cases h
        obtain ⟨-, -, -, h4, h5⟩ := obK_k hk ho
        dsimp only
        omega
    · cases h
  · cases h
    exact ⟨Or.inl rfl, l0⟩
