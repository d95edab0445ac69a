/-! a tail that stays; the laws behind a world -/
theorem CT.subT {g : Bool} {y : xY} {d : Nat} {args as2 : List Value} {cs T big : List xM} {Q : List xM → Option Value → Prop} (sg : Nat → Nat) (hi : ∀ i j : Nat, sg i = sg j → i = j) (hE : Emb sg 0 cs big) (hT : Emb sg cs.length T big) (ha2 : as2 = args.map (r_v sg))
    (h : CT false y d args (cs ++ T) 0 0 (fun sub' r => ∃ cs', sub' = cs' ++ T ∧ cs'.length = cs.length ∧ Q (wb sg 0 cs' big) (r.map (r_v sg)))) : CT g y d as2 big 0 0 Q := by
  refine CT.sub (sub := cs ++ T) sg hi (fun i q hq => ?_) ha2 ?_
  · by_cases hl : i < cs.length
    · rw [List.getElem?_append_left hl] at hq
      exact hE.hs i q hq
    · rw [List.getElem?_append_right (by omega)] at hq
      have := Emb.at T cs.length hT (i - cs.length) q hq
      rwa [show cs.length + (i - cs.length) = i by omega] at this
  · have e : (fun (sub' : List xM) (r : Option Value) => ∃ cs', sub' = cs' ++ T ∧ cs'.length = cs.length ∧ Q (wb sg 0 cs' big) (r.map (r_v sg))) = (fun sub' r => sub'.length = (cs ++ T).length ∧ ∃ cs', sub' = cs' ++ T ∧ cs'.length = cs.length ∧ Q (wb sg 0 cs' big) (r.map (r_v sg))) := by
      funext sub' r
      refine propext ⟨fun z => ⟨?_, z⟩, fun z => z.2⟩
      obtain ⟨cs', z1, z2, -⟩ := z
      rw [z1, List.length_append, List.length_append, z2]
    rw [e] at h
    have e2 : (fun (sub' : List xM) (r : Option Value) => sub'.length = (cs ++ T).length ∧ ∃ cs', sub' = cs' ++ T ∧ cs'.length = cs.length ∧ Q (wb sg 0 cs' big) (r.map (r_v sg))) = (fun sub' r => sub'.length = (cs ++ T).length ∧ (∃ cs', sub' = cs' ++ T ∧ cs'.length = cs.length ∧ Q (wb sg 0 cs' big) (r.map (r_v sg))) ∧ Q (wb sg 0 sub' big) (r.map (r_v sg))) := by
      funext sub' r
      refine propext ⟨fun z => ⟨z.1, z.2, ?_⟩, fun z => ⟨z.1, z.2.1⟩⟩
      obtain ⟨-, cs', z1, z2, z3⟩ := z
      rw [z1, wb_app, wb_same]
      · exact z3
      · rw [Nat.zero_add, z2]
        have key : ∀ (T' : List xM) (k : Nat), cs.length ≤ k → Emb sg k T' big → Emb sg k T' (wb sg 0 cs' big) := by
          intro T'
          induction T' with
          | nil => intro k hk hz; trivial
          | cons q T' ih =>
            intro k hk hz
            refine ⟨?_, ih (k + 1) (by omega) hz.2⟩
            rw [wb_out cs' 0 big (fun j hj e3 => by have := hi _ _ e3; omega)]
            exact hz.1
        exact key T cs.length (Nat.le_refl _) hT
    rw [e2] at h
    intro l ad ex dA D A p e3 ha hc hk s m args1 below hf happ hP hK
    obtain ⟨n, o, h1, h2, h3, ⟨⟨mem, r, ho, ⟨hlen, hx1, hq⟩, hM2⟩, hV⟩, hrest⟩ := h p e3 ha hc hk s m args1 below hf happ hP hK
    exact ⟨n, o, h1, h2, h3, ⟨⟨mem, r, ho, ⟨hlen, hq⟩, hM2⟩, hV⟩, hrest⟩
def lwR (b : Nat) (lx : Nat → Option Nat) : Nat → Option Nat := fun i => (lx i).map (fun j => b + 8 * j)
def lwC (b : Nat) (lx : Nat → Option Nat) : xM := .inl (5, 6, .inr (.inr (.inr (.inr (lwR b lx)))))
def DT (b : Nat) (lx : Nat → Option Nat) (ts : List TD) : List xM := lwC (b + 1) lx :: TX (b + 1) ts
theorem lwC_r {sg : Nat → Nat} {b b2 : Nat} {lx : Nat → Option Nat} (h : ∀ k, sg (b + k) = b2 + k) : r_e sg (lwC b lx) = lwC b2 lx := by
  have e : (fun i => (lwR b lx i).map sg) = lwR b2 lx := by
    funext i
    unfold lwR
    cases lx i with
    | none => rfl
    | some j => show some (sg (b + 8 * j)) = some (b2 + 8 * j); rw [h]
  exact congrArg (fun z => (.inl (5, ((6, .inr (.inr (.inr (.inr z)))) : vp_A)) : xM)) e
theorem DT_at {cs : List xM} {b j m : Nat} {lx : Nat → Option Nat} {ts : List TD} {t : TD} (hl : cs.length = b) (hj : ts[j]? = some t) (hm : m < 8) : (cs ++ DT b lx ts)[b + 1 + 8 * j + m]? = (tdC (b + 1 + 8 * j) t)[m]? := by
  rw [List.getElem?_append_right (by omega), show b + 1 + 8 * j + m - cs.length = (8 * j + m) + 1 by omega]
  show (TX (b + 1) ts)[8 * j + m]? = _
  exact TX_at ts (b + 1) j m hj hm
theorem TX_emb {sg : Nat → Nat} {b b2 : Nat} {bc : List xM} {ts : List TD} (h : ∀ k, sg (b + k) = b2 + k) (hl : bc.length = b2) : Emb sg b (TX b ts) (bc ++ TX b2 ts) := by
  have key : ∀ (T : List xM) (k : Nat) (T2 : List xM), (∀ i, T2[k - b + i]? = (T.map (r_e sg))[i]?) → b ≤ k → Emb sg k T (bc ++ T2) := by
    intro T
    induction T with
    | nil => intro k T2 _ _; trivial
    | cons q T ih =>
      intro k T2 hz hk
      refine ⟨?_, ih (k + 1) T2 (fun i => ?_) (by omega)⟩
      · have e : sg k = b2 + (k - b) := by rw [← h]; congr 1; omega
        rw [e, List.getElem?_append_right (by omega), show b2 + (k - b) - bc.length = k - b + 0 by omega, hz 0]
        rfl
      · have := hz (i + 1)
        rw [show k + 1 - b + i = k - b + (i + 1) by omega, this]
        rfl
  exact key (TX b ts) b (TX b2 ts) (fun i => by rw [TX_map ts b b2 h, show b - b + i = i by omega]) (Nat.le_refl _)
/-- bounds of a text -/
def TdB (t : TD) : Prop := (0 ≤ t.1 ∧ t.1 ≤ 12) ∧ (0 ≤ t.2.1 ∧ t.2.1 ≤ 436) ∧ (∀ j, 0 ≤ j → j < t.2.1 → 0 ≤ t.2.2.2.2.2.2.2.1 j ∧ t.2.2.2.2.2.2.2.1 j ≤ 400) ∧ (∀ c, 0 ≤ c → c < t.1 → 0 ≤ t.2.2.1 c ∧ t.2.2.1 c ≤ 3)
/-- a text of the class tells what the law in force of the reference's row tells -/
def LawRel (K : Int → Int) (t : TD) : Prop := TdB t ∧ ∀ (s p : Int) (wd : Int → Int), 0 ≤ s → s ≤ 11 → 0 ≤ p → p ≤ 20 → ∃ tv fv fb : Int → Int, EvT t.2.2.2.2.2.1 t.2.2.2.1 t.2.2.2.2.2.2.2.1 t.2.2.2.2.2.2.2.2 (aqW wd s p (K 0) (K 23) (K 21)) t.2.1 tv fv fb t.1 ∧ (∀ c, 0 ≤ c → c < t.1 → t.2.2.1 c ≠ 3 → t.2.2.2.1 c ≠ -1 ∧ rgo (fv c)) ∧ ((∃ c, 0 ≤ c ∧ c < t.1 ∧ t.2.2.1 c = 3 ∧ hlP t.2.2.2.2.2.1 t.2.2.2.1 tv fb c) ↔ tl K 4 s p 0 = 1) ∧ ∀ what, 0 ≤ what → what ≤ 2 → amF t.2.2.1 t.2.2.2.2.2.1 t.2.2.2.1 tv fv fb what t.1.toNat = tl K (what + 1) s p 1
/-- the law in force, as a value: null, or a text behind the world -/
def LV (K : Int → Int) (b : Nat) (ts : List TD) (v : Value) : Prop := (v = .null ∧ K 25 = -1) ∨ ∃ j t, v = .ref (b + 8 * j) ∧ ts[j]? = some t ∧ LawRel K t
theorem LV.or {K : Int → Int} {b : Nat} {ts : List TD} {v : Value} (h : LV K b ts v) : v = .null ∨ ∃ a, v = .ref a := by
  rcases h with h | ⟨j, t, h, -⟩
  · exact Or.inl h.1
  · exact Or.inr ⟨_, h⟩
theorem tl_no {K : Int → Int} {head s p wo : Int} (h : K 25 = -1) : tl K head s p wo = wo := by
  unfold tl TL
  rw [if_pos h]
  rfl
/-- a state of the class against the reference's row; its laws -/
def SI (K : Int → Int) (lc fo rn rl rp : Int) (rs rm rd tm : Int → Int) : Prop := RI K rn rl rp rs rm rd ∧ KR K ∧ tm 0 = K 21 ∧ tm 1 = K 22 ∧ tm 2 = K 23 ∧ lc = K 24 ∧ fo = K 25
def LX (K : Int → Int) (lx : Nat → Option Nat) (ts : List TD) : Prop := 0 ≤ K 25 → ∃ j t, lx (K 25).toNat = some j ∧ ts[j]? = some t ∧ LawRel K t
section SJV
variable {g : Bool} {y : xY} {d pc : Nat} {L : List (Option Value)} {st : List Value} {mem : List xM} {bc bs : Nat} {Q : List xM → Option Value → Prop}
theorem j_aload_nV {i : Fin 4} {v : Value} (hd : decode y.2.1 pc = .ok (.aload_n i, 1)) (hl : L[(i : Nat)]? = some (some v)) (hv : v = .null ∨ ∃ a, v = .ref a) (k : SJ g y d (pc + 1) L (v :: st) mem bc bs Q) : SJ g y d pc L st mem bc bs Q := by
  rcases hv with rfl | ⟨a, rfl⟩
  · exact j_aload_nN hd hl k
  · exact j_aload_n hd hl k
theorem j_aloadV {i : Nat} {v : Value} (hd : decode y.2.1 pc = .ok (.aload i, 2)) (hl : L[i]? = some (some v)) (hv : v = .null ∨ ∃ a, v = .ref a) (k : SJ g y d (pc + 2) L (v :: st) mem bc bs Q) : SJ g y d pc L st mem bc bs Q := by
  rcases hv with rfl | ⟨a, rfl⟩
  · exact j_aloadN hd hl k
  · exact j_aload hd hl k
theorem j_astore_nV {i : Fin 4} {v : Value} (hd : decode y.2.1 pc = .ok (.astore_n i, 1)) (hn : (i : Nat) < y.2.2.1) (hv : v = .null ∨ ∃ a, v = .ref a) (k : SJ g y d (pc + 1) (x_s1 L (i : Nat) v) st mem bc bs Q) : SJ g y d pc L (v :: st) mem bc bs Q := by
  rcases hv with rfl | ⟨a, rfl⟩
  · exact j_astore_nN hd hn k
  · exact j_astore_n hd hn k
theorem j_astoreV {i : Nat} {v : Value} (hd : decode y.2.1 pc = .ok (.astore i, 2)) (hn : i < y.2.2.1) (hv : v = .null ∨ ∃ a, v = .ref a) (k : SJ g y d (pc + 2) (x_s1 L i v) st mem bc bs Q) : SJ g y d pc L (v :: st) mem bc bs Q := by
  rcases hv with rfl | ⟨a, rfl⟩
  · exact j_astoreN hd hn k
  · exact j_astore hd hn k
end SJV
/-- what can be undone, of the class -/
def shD (x : Int → Int) (u : Int) : Int → Int := if u = 16 then cpy x x 1 0 15 else x
def rmD (x : Int → Int) (u v : Int) : Int → Int := up (shD x u) (shU u) v
theorem LV.cat {K : Int → Int} {b : Nat} {ts : List TD} {v : Value} (h : LV K b ts v) : ¬ v.category = 2 := by
  rcases h.or with rfl | ⟨a, rfl⟩
  · decide
  · show ¬ (1 = 2)
    decide
theorem x_s1_V {L : List (Option Value)} {i : Nat} {lv v : Value} (h : L[i - 1]? = some (some lv)) (hc : ¬ lv.category = 2) : x_s1 L i v = L.set i (some v) := by
  unfold x_s1 x_kill
  rw [h]
  simp only [if_neg hc]
