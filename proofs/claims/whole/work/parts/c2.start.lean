/-! THE START -/
def MM0 : List xM := MM 0 0 0 0 0 0 (-1) 0 0 0 0 0 0 0 0 0 0 0 (-1) 0 0 0 0 0 0 (-1) 0 (fun _ => 0) (up (up (fun _ => 0) 22 4) 25 (-1)) (fun _ => 0) (fun _ => 0) (fun _ => 0) w7 (fun _ => 0) (fun _ => 0) (fun _ => 0) (fun _ => 0) (fun _ => 0) (fun _ => 0) (fun _ => 0) (fun _ => 0) (fun _ => 0) (fun _ => 0) (fun _ => 0) (fun _ => 0) (fun _ => 0) (fun _ => 0) (fun _ => 0) (fun _ => 0) (fun _ => 0) (fun _ => 0) (fun _ => 0) (fun _ => 0)
theorem k0_at {j v : Int} (h : (up (up (fun _ => 0) 22 4) 25 (-1)) j = v) : (up (up (fun _ => 0) 22 4) 25 (-1)) j = v := h
theorem k0_0 {j : Int} (h1 : j ≠ 22) (h2 : j ≠ 25) : (up (up (fun _ => 0) 22 4) 25 (-1)) j = 0 := by rw [up_ne h2, up_ne h1]
theorem LXV0 {ts : List TD} : LXV (fun _ => none) ts := fun _ _ _ h => by cases h
theorem SI0 : SI (up (up (fun _ => 0) 22 4) 25 (-1)) 0 (-1) 0 0 0 (fun _ => 0) (fun _ => 0) (fun _ => 0) tm0 := by
  have k0 : (up (up (fun _ => 0) 22 4) 25 (-1)) 0 = 0 := rfl
  refine ⟨⟨rfl, by decide, fun j j0 j1 => by omega, Or.inl rfl, fun h => absurd h (by decide)⟩, ⟨by decide, fun j j0 j1 => ?_, by decide, by decide, by decide, by decide, by decide⟩, by decide +kernel, by decide +kernel, by decide +kernel, rfl, rfl⟩
  rw [k0] at j1
  omega
theorem LB0 {ts : List TD} : LB (up (up (fun _ => 0) 22 4) 25 (-1)) (fun _ => none) ts := by
  have k24 : (up (up (fun _ => 0) 22 4) 25 (-1)) 24 = 0 := rfl
  refine ⟨fun k a0 a1 => ?_, fun k a0 a1 => ?_, fun f f0 f1 => ?_⟩
  · rw [k0_0 (by omega) (by omega)]; decide
  · rw [k0_0 (by omega) (by omega)]; decide
  · rw [k24] at f1
    omega
theorem INV0 : INVm (HMw CH0 MM0 []) := by
  refine INVmk (ts := []) ⟨SI0, LB0, LXV0⟩ ⟨⟨by decide, fun j _ _ => show R32 0 from ⟨by decide, by decide⟩, fun j j0 j1 => by omega⟩, rfl⟩ ⟨rfl, by decide, fun j _ _ => show (0 : Int) = ub 0 ∧ -128 ≤ (0 : Int) ∧ (0 : Int) ≤ 127 by decide⟩ ⟨w7_TA, pw0_TB⟩ ⟨rfl, rfl, rfl, rfl⟩ ⟨rfl, rfl, rfl, rfl, rfl⟩ ⟨by decide, by decide⟩ ⟨Or.inl ⟨rfl, rfl⟩, by decide, LXV0, by decide⟩ ⟨rfl, Or.inl rfl, fun h => absurd h (by decide), LXV0⟩ ⟨rfl, Or.inl rfl, fun h => absurd h (by decide), LXV0⟩ ⟨LXV0, ⟨by decide, by decide⟩⟩ (fun _ => Or.inl rfl)
