def zpm : List Nat := [0, 1, 2, 3, 4, 5, 6, 7, 19, 20, 21, 22, 23, 24, 25, 26, 27, 28, 29, 30, 31, 32, 33, 34, 35, 36, 37, 38, 39, 40, 41, 42, 43, 44, 45, 46, 47, 48, 49, 50, 51, 52, 53, 54, 55, 56, 57, 58, 59, 60, 61, 62, 63, 64, 65, 66, 67, 8, 9, 10, 11, 12, 13, 14, 15, 16, 17, 18, 68, 69, 70, 71, 72, 73, 74, 75, 76, 77, 78, 79, 80, 81, 82, 83]
def zon0 : zNS := (0, 2, 3)
def zos0 : zOS := (fun _ => 0, fun _ _ => 0)
def zrw0 : zOS := (fun _ => 0, fun k => if k = 0 then zfl (fun _ => 0) 0 8 (-1) else fun _ => 0)
def zla0 : Nat → zLS := fun _ => (zos0, fun _ => none)
def zkc0 : Nat → zKC := fun _ => (0, 0, 0, 0)
def zmo0 : zMS := ((fun _ => 0, fun k => if k = 2 then (upd (upd (upd (upd (upd (upd (upd (upd (fun _ => 0) 0 (-1)) 1 (-1)) 2 (-1)) 3 (-1)) 4 (-1)) 5 (-1)) 6 (-1)) 7 (-1)) else fun _ => 0), 0)
/-! THE PURE LAYER: all thirty steps; the start -/
theorem pz_all {N : Nat} (hN : 200000 ≤ N) : zStepAll N pz_Inv := ⟨ps_row hN, ps_set, ps_copy hN, ps_drop, ps_feed hN, ps_land hN, ps_fault, ps_value hN, ps_go hN, ps_tell, ps_keeper hN, ps_piece hN, ps_alone hN, ps_best hN, ps_two hN, ps_think hN, ps_lostUse, ps_silence hN, ps_corner hN, ps_make hN, ps_fit hN, ps_laws hN, ps_image hN, ps_restore hN, ps_kind, ps_as, ps_ask hN, ps_trace, ps_count hN, ps_status⟩
theorem pz_Inv0 : pz_Inv [] zkc0 zon0 zrw0 zos0 zos0 zos0 zla0 zmo0 := by
  refine ⟨.inl ⟨rfl, rfl⟩, rfl, ?_, ⟨rfl, 0, by omega, rfl, rfl, fun i hi => by omega⟩, ⟨0, by omega, rfl, rfl, fun i hi => by omega⟩, .inl ⟨rfl, rfl, rfl, rfl, rfl, rfl, rfl, rfl, rfl⟩, .inl ⟨rfl, rfl⟩, .inl ⟨rfl, rfl⟩, fun j hj k a hk h => ?_, 0, by omega, rfl⟩
  · intro r hr
    rcases (show r = 0 ∨ r = 1 ∨ r = 2 ∨ r = 3 ∨ r = 4 ∨ r = 5 ∨ r = 6 ∨ r = 7 by omega) with rfl | rfl | rfl | rfl | rfl | rfl | rfl | rfl <;> exact ⟨rfl, .inl rfl, 0, by omega, rfl, rfl, fun i hi => by omega⟩
  · have h : (none : Option Nat) = some a := h
    cases h
