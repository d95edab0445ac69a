/-! PURE: the runner's words are the reference's -/
theorem WLK.wdr {K wr : Int → Int} {dn lt : Int} (h : WLK K dn lt 20 wr) (hk : KR K) (d0 : 0 ≤ dn ∧ dn ≤ 1000) (l0 : -1 ≤ lt ∧ lt ≤ 99) : wdR wr (ow K dn lt) 1 14 20 := by
  obtain ⟨h1, h2, h3, h4, h5, h6⟩ := h
  refine ⟨fun c c0 c1 hc => ?_, fun _ k k0 k1 => ?_, fun c k _ _ => ow_R hk d0 l0 c k⟩
  · have hc2 : c = 15 ∨ c = 16 ∨ c = 17 ∨ c = 18 ∨ c = 19 := by
      have u1 : c ≠ 14 := fun e => hc ⟨rfl, Or.inl e⟩
      have u2 : c ≠ 20 := fun e => hc ⟨rfl, Or.inr e⟩
      omega
    rcases hc2 with rfl | rfl | rfl | rfl | rfl
    · exact h1
    · exact h2
    · exact h3
    · exact h4
    · exact h5
  · have h7 := h6 k k0 (by omega)
    have e1 : ow K dn lt 14 k = (if 0 ≤ k ∧ k < K 0 then K (1 + k) else -1) := rfl
    have e2 : ow K dn lt 20 k = (if 0 ≤ k ∧ k < K 0 then dp K k else -1) := rfl
    rw [e1, e2, h7.1, h7.2]
    by_cases c : k < K 0
    · rw [if_pos c, if_pos c, if_pos ⟨k0, c⟩, if_pos ⟨k0, c⟩]
      exact ⟨rfl, rfl⟩
    · rw [if_neg c, if_neg c, if_neg (fun z => c z.2), if_neg (fun z => c z.2)]
      exact ⟨rfl, rfl⟩
theorem sm_in {v : Int} (h : 0 ≤ v ∧ v ≤ 1000000) : sm v = v := if_pos h
theorem sm_no {v : Int} (h : ¬ (0 ≤ v ∧ v ≤ 1000000)) : sm v = -1 := if_neg h
theorem puR_sm {K : Int → Int} {s p : Int} (hn : K 0 ≤ 20) : puR K (sm s) (sm p) = puR K s p := by
  by_cases c : 0 ≤ s ∧ s ≤ 1000000
  · rw [sm_in c]
    by_cases e : 0 ≤ p ∧ p ≤ 1000000
    · rw [sm_in e]
    · rw [sm_no e]
      unfold puR
      split
      · rfl
      · rw [if_pos (by omega), if_pos (by omega)]
  · rw [sm_no c]
    unfold puR
    rw [if_pos (by omega), if_pos (by omega)]
theorem cuR_sm {K : Int → Int} {p : Int} (hn : K 0 ≤ 20) : cuR K (sm p) = cuR K p := by
  by_cases e : 0 ≤ p ∧ p ≤ 1000000
  · rw [sm_in e]
  · rw [sm_no e]
    unfold cuR
    rw [if_pos (by omega), if_pos (by omega)]
theorem tuR_sm {K : Int → Int} {p s : Int} (hn : K 0 ≤ 20) : tuR K (sm p) (sm s) = tuR K p s := by
  by_cases c : 0 ≤ s ∧ s ≤ 1000000
  · rw [sm_in c]
    by_cases e : 0 ≤ p ∧ p ≤ 1000000
    · rw [sm_in e]
    · rw [sm_no e]
      unfold tuR
      split
      · rfl
      · rw [if_pos (by omega), if_pos (by omega)]
  · rw [sm_no c]
    unfold tuR
    rw [if_pos (by omega), if_pos (by omega)]
