def fX2_keptOf_l1 (N : Nat) (x0_1 : Int32) (x1_2 : Int32) : Nat → Int32 → Int32 → Option Int32
  | 0, _, _ => none
  | n + 1, x2_3, x3_4 =>
    if x1_2 ≤ x3_4 then
      some x2_3
    else
      fX2_keptOf_l1 N x0_1 x1_2 n ((x2_3 * x0_1) / (1000 : Int32)) (x3_4 + (1 : Int32))
def fX2_keptOf (N : Nat) (x0 : Int32) (x1 : Int32) : Option Int32 :=
  (fX2_keptOf_l1 N x0 x1 N (1000 : Int32) (0 : Int32)).bind (fun u_8 =>
    some ((1000 : Int32) - u_8))
set_option maxHeartbeats 4000000 in
set_option maxRecDepth 100000 in
theorem qX2_keptOf (l : Launch) (D : va_G) (E : zE) (KL : List Nat) (kc : Nat → zKC) (on : zNS) (rw rd ft tr : zOS) (la : Nat → zLS) (mo : zMS) (N sz : Nat) (x0 : Int32) (x1 : Int32) (out : Int32) (hF : fX2_keptOf N x0 x1 = some out) : zCi l yX2_keptOf zwX2_keptOf ({ frames := 0, cells := 0, slots := 0, locals := 0 }) [.int x0, .int x1] D E sz (zW E KL kc on rw rd ft tr la mo) (zW E KL kc on rw rd ft tr la mo) out 0 0 := by
  refine zent_i (cc := cX2_keptOf) (nL := 4) (by decide) rfl (Nat.le_of_ble_eq_true rfl) ?_
  intro p e s m args below meth c Q A hx hb hml hown hts hA hK hP hD hS hE ls hl hend
  have hown : s.vm.findClass RX2 = some m.cls := hown
  have hl : lv_has ls 4 [(0, .int x0), (1, .int x1)] := hl
  rw [fX2_keptOf] at hF
  refine lv_sipush (v := 1000) hx hb dX2_keptOf_0 (by decide) ?_
  refine lv_istore_n (lv' := [(2, .int (1000 : Int32)), (0, .int x0), (1, .int x1)]) hx hb dX2_keptOf_3 rfl hl (by decide) rfl (fun ls hl => ?_)
  refine lv_iconst (v := 0) hx hb dX2_keptOf_4 (by decide) ?_
  refine lv_istore_n (lv' := [(3, .int (0 : Int32)), (2, .int (1000 : Int32)), (0, .int x0), (1, .int x1)]) hx hb dX2_keptOf_5 rfl hl (by decide) rfl (fun ls hl => ?_)
  obtain ⟨o_6, ho_6, hF⟩ := zbd hF
  have kx_1_0 : ∀ (x2_7 : Int32), x2_7 = o_6 → ∀ (H : Heap) (locs : List Loc) (ls : Array Slot), va_P D vwCl (zW E KL kc on rw rd ft tr la mo) H → va_D A (zW E KL kc on rw rd ft tr la mo) → va_S A s.heap H locs → lv_has ls 4 [(2, .int x2_7)] → W p l e ({ frames := 0, cells := 0, slots := 0, locals := 0 } : Room) s m args below meth c H locs 0 0 Q (F0 m 25 ls []) := by
    intro x2_7 ho H locs ls hP hD hS hl
    subst ho
    refine lv_sipush (v := 1000) hx hb dX2_keptOf_25 (by decide) ?_
    refine lv_iload_n hx hb dX2_keptOf_28 rfl (lv_at hl 0 rfl) ?_
    refine lv_isub hx hb dX2_keptOf_29 ?_
    obtain rfl := Option.some.inj hF
    exact hend _ _ _ _ hP hD hS dX2_keptOf_30
  have lp_1 : ∀ (x0_1 : Int32) (x1_2 : Int32) (n : Nat) (x2_3 : Int32) (x3_4 : Int32) (o : Int32), fX2_keptOf_l1 N x0_1 x1_2 n x2_3 x3_4 = some o → (∀ (x2_7 : Int32), x2_7 = o → ∀ (H : Heap) (locs : List Loc) (ls : Array Slot), va_P D vwCl (zW E KL kc on rw rd ft tr la mo) H → va_D A (zW E KL kc on rw rd ft tr la mo) → va_S A s.heap H locs → lv_has ls 4 [(2, .int x2_7)] → W p l e ({ frames := 0, cells := 0, slots := 0, locals := 0 } : Room) s m args below meth c H locs 0 0 Q (F0 m 25 ls [])) → ∀ (H : Heap) (locs : List Loc) (ls : Array Slot), va_P D vwCl (zW E KL kc on rw rd ft tr la mo) H → va_D A (zW E KL kc on rw rd ft tr la mo) → va_S A s.heap H locs → lv_has ls 4 [(0, .int x0_1), (1, .int x1_2), (2, .int x2_3), (3, .int x3_4)] → W p l e ({ frames := 0, cells := 0, slots := 0, locals := 0 } : Room) s m args below meth c H locs 0 0 Q (F0 m 6 ls []) := by
    intro x0_1 x1_2 n
    induction n with
    | zero =>
      intro x2_3 x3_4 o hF
      exact znone hF
    | succ n ih =>
      intro x2_3 x3_4 o hF kx_1_0 H locs ls hP hD hS hl
      rw [fX2_keptOf_l1] at hF
      refine lv_iload_n hx hb dX2_keptOf_6 rfl (lv_at hl 3 rfl) ?_
      refine lv_iload_n hx hb dX2_keptOf_7 rfl (lv_at hl 1 rfl) ?_
      refine lv_icmp_ge (tgt := 25) hx hb dX2_keptOf_8 (by decide) (fun c_5 => ?_) (fun c_5 => ?_)
      · have hF := zit c_5 hF
        exact kx_1_0 x2_3 (Option.some.inj hF) _ _ _ hP hD hS (lv_sub hl [2] rfl)
      · have hF := zif c_5 hF
        refine lv_iload_n hx hb dX2_keptOf_11 rfl (lv_at hl 2 rfl) ?_
        refine lv_iload_n hx hb dX2_keptOf_12 rfl (lv_at hl 0 rfl) ?_
        refine lv_imul hx hb dX2_keptOf_13 ?_
        refine lv_sipush (v := 1000) hx hb dX2_keptOf_14 (by decide) ?_
        refine lv_idiv hx hb dX2_keptOf_17 (by decide) ?_
        refine lv_istore_n (lv' := [(2, .int ((x2_3 * x0_1) / (1000 : Int32))), (0, .int x0_1), (1, .int x1_2), (3, .int x3_4)]) hx hb dX2_keptOf_18 rfl hl (by decide) rfl (fun ls hl => ?_)
        refine lv_iinc (v := x3_4 + (1 : Int32)) (lv' := [(3, .int (x3_4 + (1 : Int32))), (2, .int ((x2_3 * x0_1) / (1000 : Int32))), (0, .int x0_1), (1, .int x1_2)]) hx hb dX2_keptOf_19 hl (k := 3) rfl rfl (by decide) rfl (fun ls hl => ?_)
        refine lv_goto (tgt := 6) hx hb dX2_keptOf_22 (by decide) ?_
        exact ih ((x2_3 * x0_1) / (1000 : Int32)) (x3_4 + (1 : Int32)) _ hF kx_1_0 _ _ _ hP hD hS (lv_sub hl [2, 3, 1, 0] rfl)
  exact lp_1 x0 x1 N (1000 : Int32) (0 : Int32) _ ho_6 kx_1_0 _ _ _ hP hD hS (lv_sub hl [2, 3, 1, 0] rfl)
def fX2_thought_l1 (N : Nat) (x1_1 : Int32) (x2_2 : Int32) : Nat → Int32 → Int32 → Option Int32
  | 0, _, _ => none
  | n + 1, x3_3, x4_4 =>
    if x2_2 ≤ x4_4 then
      some x3_3
    else
      if ((1000 : Int32) - ((x3_3 * x1_1) / (1000 : Int32))) = 0 then
        fX2_thought_l1 N x1_1 x2_2 n (0 : Int32) (x4_4 + (1 : Int32))
      else
        if ((1000 : Int32) - ((x3_3 * x1_1) / (1000 : Int32))) = 0 then none else
        fX2_thought_l1 N x1_1 x2_2 n ((x3_3 * ((1000 : Int32) - x1_1)) / ((1000 : Int32) - ((x3_3 * x1_1) / (1000 : Int32)))) (x4_4 + (1 : Int32))
def fX2_thought (N : Nat) (x0 : Int32) (x1 : Int32) (x2 : Int32) : Option Int32 :=
  (fX2_thought_l1 N x1 x2 N x0 (0 : Int32)).bind (fun u_10 =>
    some u_10)
set_option maxHeartbeats 4000000 in
set_option maxRecDepth 100000 in
theorem qX2_thought (l : Launch) (D : va_G) (E : zE) (KL : List Nat) (kc : Nat → zKC) (on : zNS) (rw rd ft tr : zOS) (la : Nat → zLS) (mo : zMS) (N sz : Nat) (x0 : Int32) (x1 : Int32) (x2 : Int32) (out : Int32) (hF : fX2_thought N x0 x1 x2 = some out) : zCi l yX2_thought zwX2_thought ({ frames := 0, cells := 0, slots := 0, locals := 0 }) [.int x0, .int x1, .int x2] D E sz (zW E KL kc on rw rd ft tr la mo) (zW E KL kc on rw rd ft tr la mo) out 0 0 := by
  refine zent_i (cc := cX2_thought) (nL := 6) (by decide) rfl (Nat.le_of_ble_eq_true rfl) ?_
  intro p e s m args below meth c Q A hx hb hml hown hts hA hK hP hD hS hE ls hl hend
  have hown : s.vm.findClass RX2 = some m.cls := hown
  have hl : lv_has ls 6 [(0, .int x0), (1, .int x1), (2, .int x2)] := hl
  rw [fX2_thought] at hF
  refine lv_iload_n hx hb dX2_thought_0 rfl (lv_at hl 0 rfl) ?_
  refine lv_istore_n (lv' := [(3, .int x0), (0, .int x0), (1, .int x1), (2, .int x2)]) hx hb dX2_thought_1 rfl hl (by decide) rfl (fun ls hl => ?_)
  refine lv_iconst (v := 0) hx hb dX2_thought_2 (by decide) ?_
  refine lv_istore (lv' := [(4, .int (0 : Int32)), (3, .int x0), (0, .int x0), (1, .int x1), (2, .int x2)]) hx hb dX2_thought_3 hl (by decide) rfl (fun ls hl => ?_)
  obtain ⟨o_8, ho_8, hF⟩ := zbd hF
  have kx_1_0 : ∀ (x3_9 : Int32), x3_9 = o_8 → ∀ (H : Heap) (locs : List Loc) (ls : Array Slot), va_P D vwCl (zW E KL kc on rw rd ft tr la mo) H → va_D A (zW E KL kc on rw rd ft tr la mo) → va_S A s.heap H locs → lv_has ls 6 [(3, .int x3_9)] → W p l e ({ frames := 0, cells := 0, slots := 0, locals := 0 } : Room) s m args below meth c H locs 0 0 Q (F0 m 50 ls []) := by
    intro x3_9 ho H locs ls hP hD hS hl
    subst ho
    refine lv_iload_n hx hb dX2_thought_50 rfl (lv_at hl 0 rfl) ?_
    obtain rfl := Option.some.inj hF
    exact hend _ _ _ _ hP hD hS dX2_thought_51
  have lp_1 : ∀ (x1_1 : Int32) (x2_2 : Int32) (n : Nat) (x3_3 : Int32) (x4_4 : Int32) (o : Int32), fX2_thought_l1 N x1_1 x2_2 n x3_3 x4_4 = some o → (∀ (x3_9 : Int32), x3_9 = o → ∀ (H : Heap) (locs : List Loc) (ls : Array Slot), va_P D vwCl (zW E KL kc on rw rd ft tr la mo) H → va_D A (zW E KL kc on rw rd ft tr la mo) → va_S A s.heap H locs → lv_has ls 6 [(3, .int x3_9)] → W p l e ({ frames := 0, cells := 0, slots := 0, locals := 0 } : Room) s m args below meth c H locs 0 0 Q (F0 m 50 ls [])) → ∀ (H : Heap) (locs : List Loc) (ls : Array Slot), va_P D vwCl (zW E KL kc on rw rd ft tr la mo) H → va_D A (zW E KL kc on rw rd ft tr la mo) → va_S A s.heap H locs → lv_has ls 6 [(1, .int x1_1), (2, .int x2_2), (3, .int x3_3), (4, .int x4_4)] → W p l e ({ frames := 0, cells := 0, slots := 0, locals := 0 } : Room) s m args below meth c H locs 0 0 Q (F0 m 5 ls []) := by
    intro x1_1 x2_2 n
    induction n with
    | zero =>
      intro x3_3 x4_4 o hF
      exact znone hF
    | succ n ih =>
      intro x3_3 x4_4 o hF kx_1_0 H locs ls hP hD hS hl
      rw [fX2_thought_l1] at hF
      refine lv_iload hx hb dX2_thought_5 (lv_at hl 3 rfl) ?_
      refine lv_iload_n hx hb dX2_thought_7 rfl (lv_at hl 1 rfl) ?_
      refine lv_icmp_ge (tgt := 50) hx hb dX2_thought_8 (by decide) (fun c_5 => ?_) (fun c_5 => ?_)
      · have hF := zit c_5 hF
        exact kx_1_0 x3_3 (Option.some.inj hF) _ _ _ hP hD hS (lv_sub hl [2] rfl)
      · have hF := zif c_5 hF
        refine lv_sipush (v := 1000) hx hb dX2_thought_11 (by decide) ?_
        refine lv_iload_n hx hb dX2_thought_14 rfl (lv_at hl 2 rfl) ?_
        refine lv_iload_n hx hb dX2_thought_15 rfl (lv_at hl 0 rfl) ?_
        refine lv_imul hx hb dX2_thought_16 ?_
        refine lv_sipush (v := 1000) hx hb dX2_thought_17 (by decide) ?_
        refine lv_idiv hx hb dX2_thought_20 (by decide) ?_
        refine lv_isub hx hb dX2_thought_21 ?_
        refine lv_istore (lv' := [(5, .int ((1000 : Int32) - ((x3_3 * x1_1) / (1000 : Int32)))), (1, .int x1_1), (2, .int x2_2), (3, .int x3_3), (4, .int x4_4)]) hx hb dX2_thought_22 hl (by decide) rfl (fun ls hl => ?_)
        refine lv_iload hx hb dX2_thought_24 (lv_at hl 0 rfl) ?_
        refine lv_if_ne (tgt := 33) hx hb dX2_thought_26 (by decide) (fun c_6 => ?_) (fun c_6 => ?_)
        · have hF := zif c_6 hF
          refine lv_iload_n hx hb dX2_thought_33 rfl (lv_at hl 3 rfl) ?_
          refine lv_sipush (v := 1000) hx hb dX2_thought_34 (by decide) ?_
          refine lv_iload_n hx hb dX2_thought_37 rfl (lv_at hl 1 rfl) ?_
          refine lv_isub hx hb dX2_thought_38 ?_
          refine lv_imul hx hb dX2_thought_39 ?_
          refine lv_iload hx hb dX2_thought_40 (lv_at hl 0 rfl) ?_
          obtain ⟨g_7, hF⟩ := zgd hF
          refine lv_idiv hx hb dX2_thought_42 g_7 ?_
          refine lv_istore_n (lv' := [(3, .int ((x3_3 * ((1000 : Int32) - x1_1)) / ((1000 : Int32) - ((x3_3 * x1_1) / (1000 : Int32))))), (5, .int ((1000 : Int32) - ((x3_3 * x1_1) / (1000 : Int32)))), (1, .int x1_1), (2, .int x2_2), (4, .int x4_4)]) hx hb dX2_thought_43 rfl hl (by decide) rfl (fun ls hl => ?_)
          refine lv_iinc (v := x4_4 + (1 : Int32)) (lv' := [(4, .int (x4_4 + (1 : Int32))), (3, .int ((x3_3 * ((1000 : Int32) - x1_1)) / ((1000 : Int32) - ((x3_3 * x1_1) / (1000 : Int32))))), (5, .int ((1000 : Int32) - ((x3_3 * x1_1) / (1000 : Int32)))), (1, .int x1_1), (2, .int x2_2)]) hx hb dX2_thought_44 hl (k := 4) rfl rfl (by decide) rfl (fun ls hl => ?_)
          refine lv_goto (tgt := 5) hx hb dX2_thought_47 (by decide) ?_
          exact ih ((x3_3 * ((1000 : Int32) - x1_1)) / ((1000 : Int32) - ((x3_3 * x1_1) / (1000 : Int32)))) (x4_4 + (1 : Int32)) _ hF kx_1_0 _ _ _ hP hD hS (lv_sub hl [3, 4, 1, 0] rfl)
        · have hF := zit c_6 hF
          refine lv_iconst (v := 0) hx hb dX2_thought_29 (by decide) ?_
          refine lv_goto (tgt := 43) hx hb dX2_thought_30 (by decide) ?_
          refine lv_istore_n (lv' := [(3, .int (0 : Int32)), (5, .int ((1000 : Int32) - ((x3_3 * x1_1) / (1000 : Int32)))), (1, .int x1_1), (2, .int x2_2), (4, .int x4_4)]) hx hb dX2_thought_43 rfl hl (by decide) rfl (fun ls hl => ?_)
          refine lv_iinc (v := x4_4 + (1 : Int32)) (lv' := [(4, .int (x4_4 + (1 : Int32))), (3, .int (0 : Int32)), (5, .int ((1000 : Int32) - ((x3_3 * x1_1) / (1000 : Int32)))), (1, .int x1_1), (2, .int x2_2)]) hx hb dX2_thought_44 hl (k := 4) rfl rfl (by decide) rfl (fun ls hl => ?_)
          refine lv_goto (tgt := 5) hx hb dX2_thought_47 (by decide) ?_
          exact ih (0 : Int32) (x4_4 + (1 : Int32)) _ hF kx_1_0 _ _ _ hP hD hS (lv_sub hl [3, 4, 1, 0] rfl)
  exact lp_1 x1 x2 N x0 (0 : Int32) _ ho_8 kx_1_0 _ _ _ hP hD hS (lv_sub hl [3, 4, 1, 0] rfl)
def fX2_edge (N : Nat) (x0 : Int32) (x1 : Int32) : Option Int32 :=
  if 0 < x0 then
    if 0 < x1 then
      if x1 = 0 then none else
      if (99999 : Int32) < (((((1000 : Int32) * x0) + x1) - (1 : Int32)) / x1) then
        some (-1000000 : Int32)
      else
        some (((((1000 : Int32) * x0) + x1) - (1 : Int32)) / x1)
    else
      some (-1000000 : Int32)
  else
    some (0 : Int32)
set_option maxHeartbeats 4000000 in
set_option maxRecDepth 100000 in
theorem qX2_edge (l : Launch) (D : va_G) (E : zE) (KL : List Nat) (kc : Nat → zKC) (on : zNS) (rw rd ft tr : zOS) (la : Nat → zLS) (mo : zMS) (N sz : Nat) (x0 : Int32) (x1 : Int32) (out : Int32) (hF : fX2_edge N x0 x1 = some out) : zCi l yX2_edge zwX2_edge ({ frames := 0, cells := 0, slots := 0, locals := 0 }) [.int x0, .int x1] D E sz (zW E KL kc on rw rd ft tr la mo) (zW E KL kc on rw rd ft tr la mo) out 0 0 := by
  refine zent_i (cc := cX2_edge) (nL := 3) (by decide) rfl (Nat.le_of_ble_eq_true rfl) ?_
  intro p e s m args below meth c Q A hx hb hml hown hts hA hK hP hD hS hE ls hl hend
  have hown : s.vm.findClass RX2 = some m.cls := hown
  have hl : lv_has ls 3 [(0, .int x0), (1, .int x1)] := hl
  rw [fX2_edge] at hF
  refine lv_iload_n hx hb dX2_edge_0 rfl (lv_at hl 0 rfl) ?_
  refine lv_if_gt (tgt := 6) hx hb dX2_edge_1 (by decide) (fun c_1 => ?_) (fun c_1 => ?_)
  · have hF := zit c_1 hF
    refine lv_iload_n hx hb dX2_edge_6 rfl (lv_at hl 1 rfl) ?_
    refine lv_if_gt (tgt := 13) hx hb dX2_edge_7 (by decide) (fun c_2 => ?_) (fun c_2 => ?_)
    · have hF := zit c_2 hF
      refine lv_sipush (v := 1000) hx hb dX2_edge_13 (by decide) ?_
      refine lv_iload_n hx hb dX2_edge_16 rfl (lv_at hl 0 rfl) ?_
      refine lv_imul hx hb dX2_edge_17 ?_
      refine lv_iload_n hx hb dX2_edge_18 rfl (lv_at hl 1 rfl) ?_
      refine lv_iadd hx hb dX2_edge_19 ?_
      refine lv_iconst (v := 1) hx hb dX2_edge_20 (by decide) ?_
      refine lv_isub hx hb dX2_edge_21 ?_
      refine lv_iload_n hx hb dX2_edge_22 rfl (lv_at hl 1 rfl) ?_
      obtain ⟨g_3, hF⟩ := zgd hF
      refine lv_idiv hx hb dX2_edge_23 g_3 ?_
      refine lv_istore_n (lv' := [(2, .int (((((1000 : Int32) * x0) + x1) - (1 : Int32)) / x1)), (0, .int x0), (1, .int x1)]) hx hb dX2_edge_24 rfl hl (by decide) rfl (fun ls hl => ?_)
      refine lv_iload_n hx hb dX2_edge_25 rfl (lv_at hl 0 rfl) ?_
      refine lv_ldc (own := RX2) (v := 99999) hx hb hown (zh hts k3_105) dX2_edge_26 ?_
      refine lv_icmp_gt (tgt := 35) hx hb dX2_edge_28 (by decide) (fun c_4 => ?_) (fun c_4 => ?_)
      · have hF := zit c_4 hF
        refine lv_ldc (own := RX2) (v := -1000000) hx hb hown (zh hts k3_96) dX2_edge_35 ?_
        obtain rfl := Option.some.inj hF
        exact hend _ _ _ _ hP hD hS dX2_edge_37
      · have hF := zif c_4 hF
        refine lv_iload_n hx hb dX2_edge_31 rfl (lv_at hl 0 rfl) ?_
        refine lv_goto (tgt := 37) hx hb dX2_edge_32 (by decide) ?_
        obtain rfl := Option.some.inj hF
        exact hend _ _ _ _ hP hD hS dX2_edge_37
    · have hF := zif c_2 hF
      refine lv_ldc (own := RX2) (v := -1000000) hx hb hown (zh hts k3_96) dX2_edge_10 ?_
      obtain rfl := Option.some.inj hF
      exact hend _ _ _ _ hP hD hS dX2_edge_12
  · have hF := zif c_1 hF
    refine lv_iconst (v := 0) hx hb dX2_edge_4 (by decide) ?_
    obtain rfl := Option.some.inj hF
    exact hend _ _ _ _ hP hD hS dX2_edge_5
def fX2_boughtAt (N : Nat) (ft : zOS) (x1 : Int32) : Option Int32 :=
  if x1 < 0 then
    some (-1000000 : Int32)
  else
    if (ft.1 1) ≤ x1 then
      some (-1000000 : Int32)
    else
      if (6 : Int32) ≤ x1 then
        some (-1000000 : Int32)
      else
        if x1 < 0 ∨ 6 ≤ x1.toNatClampNeg then none else
        some (ft.2 5 x1.toNatClampNeg)
set_option maxHeartbeats 4000000 in
set_option maxRecDepth 100000 in
theorem qX2_boughtAt (l : Launch) (D : va_G) (E : zE) (KL : List Nat) (kc : Nat → zKC) (on : zNS) (rw rd ft tr : zOS) (la : Nat → zLS) (mo : zMS) (N sz : Nat) (x1 : Int32) (out : Int32) (hF : fX2_boughtAt N ft x1 = some out) : zCi l yX2_boughtAt zwX2_boughtAt ({ frames := 0, cells := 0, slots := 0, locals := 0 }) [.ref (E.1 7), .int x1] D E sz (zW E KL kc on rw rd ft tr la mo) (zW E KL kc on rw rd ft tr la mo) out 0 0 := by
  refine zent_i (cc := cX2_boughtAt) (nL := 2) (by decide) rfl (Nat.le_of_ble_eq_true rfl) ?_
  intro p e s m args below meth c Q A hx hb hml hown hts hA hK hP hD hS hE ls hl hend
  have hown : s.vm.findClass RX2 = some m.cls := hown
  have hl : lv_has ls 2 [(0, .ref (E.1 7)), (1, .int x1)] := hl
  rw [fX2_boughtAt] at hF
  refine lv_iload_n hx hb dX2_boughtAt_0 rfl (lv_at hl 1 rfl) ?_
  refine lv_if_lt (tgt := 27) hx hb dX2_boughtAt_1 (by decide) (fun c_1 => ?_) (fun c_1 => ?_)
  · have hF := zit c_1 hF
    refine lv_ldc (own := RX2) (v := -1000000) hx hb hown (zh hts k3_96) dX2_boughtAt_27 ?_
    obtain rfl := Option.some.inj hF
    exact hend _ _ _ _ hP hD hS dX2_boughtAt_29
  · have hF := zif c_1 hF
    refine lv_iload_n hx hb dX2_boughtAt_4 rfl (lv_at hl 1 rfl) ?_
    refine lv_aload_n hx hb dX2_boughtAt_5 rfl (lv_at hl 0 rfl) ?_
    refine va_get (D := D) (ci := 2) (v := .int (ft.1 1)) (C := RX2) (T := TX2) (N := 7) hx hb hts (zi iX2) hown hK hP 7 (zg_ft _ _ _ _ _ _ _ _ _ _) rfl 1 (by decide) (zh hts k0_179) (fun _ h9 => h9) rfl dX2_boughtAt_6 ?_
    refine lv_icmp_ge (tgt := 27) hx hb dX2_boughtAt_9 (by decide) (fun c_2 => ?_) (fun c_2 => ?_)
    · have hF := zit c_2 hF
      refine lv_ldc (own := RX2) (v := -1000000) hx hb hown (zh hts k3_96) dX2_boughtAt_27 ?_
      obtain rfl := Option.some.inj hF
      exact hend _ _ _ _ hP hD hS dX2_boughtAt_29
    · have hF := zif c_2 hF
      refine lv_iload_n hx hb dX2_boughtAt_12 rfl (lv_at hl 1 rfl) ?_
      refine lv_bipush (v := 6) hx hb dX2_boughtAt_13 (by decide) ?_
      refine lv_icmp_ge (tgt := 27) hx hb dX2_boughtAt_15 (by decide) (fun c_3 => ?_) (fun c_3 => ?_)
      · have hF := zit c_3 hF
        refine lv_ldc (own := RX2) (v := -1000000) hx hb hown (zh hts k3_96) dX2_boughtAt_27 ?_
        obtain rfl := Option.some.inj hF
        exact hend _ _ _ _ hP hD hS dX2_boughtAt_29
      · have hF := zif c_3 hF
        refine lv_aload_n hx hb dX2_boughtAt_18 rfl (lv_at hl 0 rfl) ?_
        refine va_get (D := D) (ci := 2) (v := .ref (E.1 9)) (C := RX2) (T := TX2) (N := 7) hx hb hts (zi iX2) hown hK hP 7 (zg_ft _ _ _ _ _ _ _ _ _ _) rfl 5 (by decide) (zh hts k0_183) (fun _ h9 => h9) rfl dX2_boughtAt_19 ?_
        refine lv_iload_n hx hb dX2_boughtAt_22 rfl (lv_at hl 1 rfl) ?_
        obtain ⟨g_4, hF⟩ := zgd hF
        refine ziald (v := ft.2 5 x1.toNatClampNeg) hx hb hK hP 9 1 (zg_ft_5 _ _ _ _ _ _ _ _ _ _) rfl g_4 rfl dX2_boughtAt_23 ?_
        refine lv_goto (tgt := 29) hx hb dX2_boughtAt_24 (by decide) ?_
        obtain rfl := Option.some.inj hF
        exact hend _ _ _ _ hP hD hS dX2_boughtAt_29
def fX2_keepOrder (N : Nat) (ft : zOS) (x1 : Int32) : Option zOS :=
  some (zpA (zpi ft 0 x1) 5 (va_cpy (ft.2 4) (ft.2 5) ((0 : Int32).toNatClampNeg) ((0 : Int32).toNatClampNeg) ((6 : Int32).toNatClampNeg)))
set_option maxHeartbeats 4000000 in
set_option maxRecDepth 100000 in
theorem qX2_keepOrder (l : Launch) (D : va_G) (E : zE) (KL : List Nat) (kc : Nat → zKC) (on : zNS) (rw rd ft tr : zOS) (la : Nat → zLS) (mo : zMS) (N sz : Nat) (x1 : Int32) (out : zOS) (hF : fX2_keepOrder N ft x1 = some out) : zCv l yX2_keepOrder zwX2_keepOrder ({ frames := 1, cells := 0, slots := 0, locals := 60 }) [.ref (E.1 7), .int x1] D E sz (zW E KL kc on rw rd ft tr la mo) (zW E KL kc on rw rd out tr la mo) 0 0 := by
  refine zent_v (cc := cX2_keepOrder) (nL := 2) (by decide) rfl (Nat.le_of_ble_eq_true rfl) ?_
  intro p e s m args below meth c Q A hx hb hml hown hts hA hK hP hD hS hE ls hl hend
  have hown : s.vm.findClass RX2 = some m.cls := hown
  have hl : lv_has ls 2 [(0, .ref (E.1 7)), (1, .int x1)] := hl
  rw [fX2_keepOrder] at hF
  refine lv_aload_n hx hb dX2_keepOrder_0 rfl (lv_at hl 0 rfl) ?_
  refine lv_iload_n hx hb dX2_keepOrder_1 rfl (lv_at hl 1 rfl) ?_
  refine va_put (D := D) (ci := 2) (v := .int x1) (ty := .int) (C := RX2) (T := TX2) (N := 7) hx hb hts (zi iX2) tyX2 tyX2_ok nmX2 hown hK hP hD hS 7 (zg_ft _ _ _ _ _ _ _ _ _ _) rfl 0 (by decide) (zh hts k0_177) (fun _ h9 => h9) rfl (by decide +kernel) rfl rfl (Nat.le_of_ble_eq_true rfl) dX2_keepOrder_2 (fun H locs hP hD hS => ?_)
  rw [zs_ft_0] at hP hD
  refine lv_aload_n hx hb dX2_keepOrder_5 rfl (lv_at hl 0 rfl) ?_
  refine va_get (D := D) (ci := 2) (v := .ref (E.1 8)) (C := RX2) (T := TX2) (N := 7) hx hb hts (zi iX2) hown hK hP 7 (zg_ft _ _ _ _ _ _ _ _ _ _) rfl 4 (by decide) (zh hts k0_182) (fun _ h9 => h9) rfl dX2_keepOrder_6 ?_
  refine lv_iconst (v := 0) hx hb dX2_keepOrder_9 (by decide) ?_
  refine lv_aload_n hx hb dX2_keepOrder_10 rfl (lv_at hl 0 rfl) ?_
  refine va_get (D := D) (ci := 2) (v := .ref (E.1 9)) (C := RX2) (T := TX2) (N := 7) hx hb hts (zi iX2) hown hK hP 7 (zg_ft _ _ _ _ _ _ _ _ _ _) rfl 5 (by decide) (zh hts k0_183) (fun _ h9 => h9) rfl dX2_keepOrder_11 ?_
  refine lv_iconst (v := 0) hx hb dX2_keepOrder_14 (by decide) ?_
  refine lv_bipush (v := 6) hx hb dX2_keepOrder_15 (by decide) ?_
  refine va_copyi hx hb (hml.trans hl.1.symm) (own := RX2) hown (zh hts k3_83) (zh hts k1_73) (zh hts k1_72) (zh hts k0_9) hK hP hD hS 8 9 1 1 (zg_ft_4 _ _ _ _ _ _ _ _ _ _) (zg_ft_5 _ _ _ _ _ _ _ _ _ _) rfl rfl rfl (by decide) (by decide) (by decide) (by decide) (by decide) (fun _ _ => rfl) (Nat.le_of_ble_eq_true rfl) (Nat.le_of_ble_eq_true rfl) dX2_keepOrder_17 (fun H locs hP hD hS => ?_)
  rw [zs_ft_5] at hP hD
  have hP : va_P D vwCl (zW E KL kc on rw rd (zpA (zpi ft 0 x1) 5 (va_cpy (ft.2 4) (ft.2 5) ((0 : Int32).toNatClampNeg) ((0 : Int32).toNatClampNeg) ((6 : Int32).toNatClampNeg))) tr la mo) H := hP
  have hD : va_D A (zW E KL kc on rw rd (zpA (zpi ft 0 x1) 5 (va_cpy (ft.2 4) (ft.2 5) ((0 : Int32).toNatClampNeg) ((0 : Int32).toNatClampNeg) ((6 : Int32).toNatClampNeg))) tr la mo) := hD
  obtain rfl := Option.some.inj hF
  exact hend _ _ _ _ hP hD hS dX2_keepOrder_20
def fX2_swap (N : Nat) (ft : zOS) (x1 : Int32) (x2 : Int32) : Option zOS :=
  if x1 < 0 then
    some ft
  else
    if x2 < 0 then
      some ft
    else
      if (6 : Int32) ≤ x1 then
        some ft
      else
        if (6 : Int32) ≤ x2 then
          some ft
        else
          if x1 < 0 ∨ 6 ≤ x1.toNatClampNeg then none else
          if x2 < 0 ∨ 6 ≤ x2.toNatClampNeg then none else
          if x1 < 0 ∨ 6 ≤ x1.toNatClampNeg then none else
          if x2 < 0 ∨ 6 ≤ x2.toNatClampNeg then none else
          some (zpA (zpA ft 4 (upd (ft.2 4) x1.toNatClampNeg (ft.2 4 x2.toNatClampNeg))) 4 (upd ((upd (ft.2 4) x1.toNatClampNeg (ft.2 4 x2.toNatClampNeg))) x2.toNatClampNeg (ft.2 4 x1.toNatClampNeg)))
set_option maxHeartbeats 4000000 in
set_option maxRecDepth 100000 in
theorem qX2_swap (l : Launch) (D : va_G) (E : zE) (KL : List Nat) (kc : Nat → zKC) (on : zNS) (rw rd ft tr : zOS) (la : Nat → zLS) (mo : zMS) (N sz : Nat) (x1 : Int32) (x2 : Int32) (out : zOS) (hF : fX2_swap N ft x1 x2 = some out) : zCv l yX2_swap zwX2_swap ({ frames := 0, cells := 0, slots := 0, locals := 0 }) [.ref (E.1 7), .int x1, .int x2] D E sz (zW E KL kc on rw rd ft tr la mo) (zW E KL kc on rw rd out tr la mo) 0 0 := by
  refine zent_v (cc := cX2_swap) (nL := 4) (by decide) rfl (Nat.le_of_ble_eq_true rfl) ?_
  intro p e s m args below meth c Q A hx hb hml hown hts hA hK hP hD hS hE ls hl hend
  have hown : s.vm.findClass RX2 = some m.cls := hown
  have hl : lv_has ls 4 [(0, .ref (E.1 7)), (1, .int x1), (2, .int x2)] := hl
  rw [fX2_swap] at hF
  refine lv_iload_n hx hb dX2_swap_0 rfl (lv_at hl 1 rfl) ?_
  refine lv_if_lt (tgt := 46) hx hb dX2_swap_1 (by decide) (fun c_1 => ?_) (fun c_1 => ?_)
  · have hF := zit c_1 hF
    obtain rfl := Option.some.inj hF
    exact hend _ _ _ _ hP hD hS dX2_swap_46
  · have hF := zif c_1 hF
    refine lv_iload_n hx hb dX2_swap_4 rfl (lv_at hl 2 rfl) ?_
    refine lv_if_lt (tgt := 46) hx hb dX2_swap_5 (by decide) (fun c_2 => ?_) (fun c_2 => ?_)
    · have hF := zit c_2 hF
      obtain rfl := Option.some.inj hF
      exact hend _ _ _ _ hP hD hS dX2_swap_46
    · have hF := zif c_2 hF
      refine lv_iload_n hx hb dX2_swap_8 rfl (lv_at hl 1 rfl) ?_
      refine lv_bipush (v := 6) hx hb dX2_swap_9 (by decide) ?_
      refine lv_icmp_ge (tgt := 46) hx hb dX2_swap_11 (by decide) (fun c_3 => ?_) (fun c_3 => ?_)
      · have hF := zit c_3 hF
        obtain rfl := Option.some.inj hF
        exact hend _ _ _ _ hP hD hS dX2_swap_46
      · have hF := zif c_3 hF
        refine lv_iload_n hx hb dX2_swap_14 rfl (lv_at hl 2 rfl) ?_
        refine lv_bipush (v := 6) hx hb dX2_swap_15 (by decide) ?_
        refine lv_icmp_ge (tgt := 46) hx hb dX2_swap_17 (by decide) (fun c_4 => ?_) (fun c_4 => ?_)
        · have hF := zit c_4 hF
          obtain rfl := Option.some.inj hF
          exact hend _ _ _ _ hP hD hS dX2_swap_46
        · have hF := zif c_4 hF
          refine lv_aload_n hx hb dX2_swap_20 rfl (lv_at hl 0 rfl) ?_
          refine va_get (D := D) (ci := 2) (v := .ref (E.1 8)) (C := RX2) (T := TX2) (N := 7) hx hb hts (zi iX2) hown hK hP 7 (zg_ft _ _ _ _ _ _ _ _ _ _) rfl 4 (by decide) (zh hts k0_182) (fun _ h9 => h9) rfl dX2_swap_21 ?_
          refine lv_iload_n hx hb dX2_swap_24 rfl (lv_at hl 1 rfl) ?_
          obtain ⟨g_5, hF⟩ := zgd hF
          refine ziald (v := ft.2 4 x1.toNatClampNeg) hx hb hK hP 8 1 (zg_ft_4 _ _ _ _ _ _ _ _ _ _) rfl g_5 rfl dX2_swap_25 ?_
          refine lv_istore_n (lv' := [(3, .int (ft.2 4 x1.toNatClampNeg)), (0, .ref (E.1 7)), (1, .int x1), (2, .int x2)]) hx hb dX2_swap_26 rfl hl (by decide) rfl (fun ls hl => ?_)
          refine lv_aload_n hx hb dX2_swap_27 rfl (lv_at hl 1 rfl) ?_
          refine va_get (D := D) (ci := 2) (v := .ref (E.1 8)) (C := RX2) (T := TX2) (N := 7) hx hb hts (zi iX2) hown hK hP 7 (zg_ft _ _ _ _ _ _ _ _ _ _) rfl 4 (by decide) (zh hts k0_182) (fun _ h9 => h9) rfl dX2_swap_28 ?_
          refine lv_iload_n hx hb dX2_swap_31 rfl (lv_at hl 2 rfl) ?_
          refine lv_aload_n hx hb dX2_swap_32 rfl (lv_at hl 1 rfl) ?_
          refine va_get (D := D) (ci := 2) (v := .ref (E.1 8)) (C := RX2) (T := TX2) (N := 7) hx hb hts (zi iX2) hown hK hP 7 (zg_ft _ _ _ _ _ _ _ _ _ _) rfl 4 (by decide) (zh hts k0_182) (fun _ h9 => h9) rfl dX2_swap_33 ?_
          refine lv_iload_n hx hb dX2_swap_36 rfl (lv_at hl 3 rfl) ?_
          obtain ⟨g_6, hF⟩ := zgd hF
          refine ziald (v := ft.2 4 x2.toNatClampNeg) hx hb hK hP 8 1 (zg_ft_4 _ _ _ _ _ _ _ _ _ _) rfl g_6 rfl dX2_swap_37 ?_
          obtain ⟨g_7, hF⟩ := zgd hF
          refine va_iast hx hb hK hP hD hS 8 1 (zg_ft_4 _ _ _ _ _ _ _ _ _ _) rfl g_7 dX2_swap_38 (fun H locs hP hD hS => ?_)
          rw [zs_ft_4] at hP hD
          have hP : va_P D vwCl (zW E KL kc on rw rd (zpA ft 4 (upd (ft.2 4) x1.toNatClampNeg (ft.2 4 x2.toNatClampNeg))) tr la mo) H := hP
          have hD : va_D A (zW E KL kc on rw rd (zpA ft 4 (upd (ft.2 4) x1.toNatClampNeg (ft.2 4 x2.toNatClampNeg))) tr la mo) := hD
          refine lv_aload_n hx hb dX2_swap_39 rfl (lv_at hl 1 rfl) ?_
          refine va_get (D := D) (ci := 2) (v := .ref (E.1 8)) (C := RX2) (T := TX2) (N := 7) hx hb hts (zi iX2) hown hK hP 7 (zg_ft _ _ _ _ _ _ _ _ _ _) rfl 4 (by decide) (zh hts k0_182) (fun _ h9 => h9) rfl dX2_swap_40 ?_
          refine lv_iload_n hx hb dX2_swap_43 rfl (lv_at hl 3 rfl) ?_
          refine lv_iload_n hx hb dX2_swap_44 rfl (lv_at hl 0 rfl) ?_
          obtain ⟨g_8, hF⟩ := zgd hF
          refine va_iast hx hb hK hP hD hS 8 1 (zg_ft_4 _ _ _ _ _ _ _ _ _ _) rfl g_8 dX2_swap_45 (fun H locs hP hD hS => ?_)
          rw [zs_ft_4] at hP hD
          have hP : va_P D vwCl (zW E KL kc on rw rd (zpA (zpA ft 4 (upd (ft.2 4) x1.toNatClampNeg (ft.2 4 x2.toNatClampNeg))) 4 (upd ((upd (ft.2 4) x1.toNatClampNeg (ft.2 4 x2.toNatClampNeg))) x2.toNatClampNeg (ft.2 4 x1.toNatClampNeg))) tr la mo) H := hP
          have hD : va_D A (zW E KL kc on rw rd (zpA (zpA ft 4 (upd (ft.2 4) x1.toNatClampNeg (ft.2 4 x2.toNatClampNeg))) 4 (upd ((upd (ft.2 4) x1.toNatClampNeg (ft.2 4 x2.toNatClampNeg))) x2.toNatClampNeg (ft.2 4 x1.toNatClampNeg))) tr la mo) := hD
          obtain rfl := Option.some.inj hF
          exact hend _ _ _ _ hP hD hS dX2_swap_46
def fX2_waitingAlone (N : Nat) (L : zLS) (x1 : Int32) (x2 : Int32) : Option Int32 :=
  (fX2_keptOf N (L.1.1 3) x2).bind fun u_1 =>
  some (((x1 * u_1) / (1000 : Int32)) - ((L.1.1 5) * (x2 - (1 : Int32))))
set_option maxHeartbeats 4000000 in
set_option maxRecDepth 100000 in
theorem qX2_waitingAlone (l : Launch) (D : va_G) (E : zE) (KL : List Nat) (kc : Nat → zKC) (on : zNS) (rw rd ft tr : zOS) (la : Nat → zLS) (mo : zMS) (j : Nat) (hj : j < 5) (L : zLS) (N sz : Nat) (x1 : Int32) (x2 : Int32) (out : Int32) (hF : fX2_waitingAlone N L x1 x2 = some out) : zCi l yX2_waitingAlone zwX2_waitingAlone ({ frames := 1, cells := 0, slots := 0, locals := 23 }) [.ref (E.1 (13 + 11 * j)), .int x1, .int x2] D E sz (zW E KL kc on rw rd ft tr (va_up la j L) mo) (zW E KL kc on rw rd ft tr (va_up la j L) mo) out 0 0 := by
  refine zent_i (cc := cX2_waitingAlone) (nL := 3) (by decide) rfl (Nat.le_of_ble_eq_true rfl) ?_
  intro p e s m args below meth c Q A hx hb hml hown hts hA hK hP hD hS hE ls hl hend
  have hown : s.vm.findClass RX2 = some m.cls := hown
  have hl : lv_has ls 3 [(0, .ref (E.1 (13 + 11 * j))), (1, .int x1), (2, .int x2)] := hl
  rw [fX2_waitingAlone] at hF
  refine lv_iload_n hx hb dX2_waitingAlone_0 rfl (lv_at hl 1 rfl) ?_
  refine lv_aload_n hx hb dX2_waitingAlone_1 rfl (lv_at hl 0 rfl) ?_
  refine va_get (D := D) (ci := 3) (v := .int (L.1.1 3)) (C := RX4) (T := TX4) (N := 19) hx hb hts (zi iX4) hown hK hP (13 + 11 * j) (zg_L _ _ _ _ _ _ _ _ _ _ hj _) rfl 3 (by decide) (zh hts k0_108) (fun _ h9 => h9) rfl dX2_waitingAlone_2 ?_
  refine lv_iload_n hx hb dX2_waitingAlone_5 rfl (lv_at hl 2 rfl) ?_
  obtain ⟨u_1, hu_1, hF⟩ := zbd hF
  refine zcall_i (va_runS (As := [.int (L.1.1 3), .int x2]) (rest := [.int x1]) ⟨hx, hb, hml, hown, hts⟩ (qX2_keptOf l D E KL kc on rw rd ft tr (va_up la j L) mo N _ (L.1.1 3) x2 _ hu_1) (va_cwS 2 hts (zgS k3_22 k3_23 k0_5 k3_24) rfl rfl rfl (by decide +kernel) ⟨Nat.le_of_ble_eq_true rfl, Nat.le_of_ble_eq_true rfl⟩) (zps hE hS hA hK hP hD) rfl rfl hl.1 rfl (lv_room (Nat.le_of_ble_eq_true rfl)) dX2_waitingAlone_6 ⟨Nat.zero_le _, Nat.zero_le _⟩) hD hS hA (fun H locs hP hD hS => ?_)
  refine lv_imul hx hb dX2_waitingAlone_9 ?_
  refine lv_sipush (v := 1000) hx hb dX2_waitingAlone_10 (by decide) ?_
  refine lv_idiv hx hb dX2_waitingAlone_13 (by decide) ?_
  refine lv_aload_n hx hb dX2_waitingAlone_14 rfl (lv_at hl 0 rfl) ?_
  refine va_get (D := D) (ci := 3) (v := .int (L.1.1 5)) (C := RX4) (T := TX4) (N := 19) hx hb hts (zi iX4) hown hK hP (13 + 11 * j) (zg_L _ _ _ _ _ _ _ _ _ _ hj _) rfl 5 (by decide) (zh hts k0_113) (fun _ h9 => h9) rfl dX2_waitingAlone_15 ?_
  refine lv_iload_n hx hb dX2_waitingAlone_18 rfl (lv_at hl 2 rfl) ?_
  refine lv_iconst (v := 1) hx hb dX2_waitingAlone_19 (by decide) ?_
  refine lv_isub hx hb dX2_waitingAlone_20 ?_
  refine lv_imul hx hb dX2_waitingAlone_21 ?_
  refine lv_isub hx hb dX2_waitingAlone_22 ?_
  obtain rfl := Option.some.inj hF
  exact hend _ _ _ _ hP hD hS dX2_waitingAlone_23
def fX2_listBuyable_l1 (N : Nat) (L_4 : zLS) (x2_1 : Int32) (x3_2 : Int32) : Nat → Int32 → zOS → Option zOS
  | 0, _, _ => none
  | n + 1, x4_3, ft_5 =>
    if (L_4.1.1 6) ≤ x4_3 then
      some ft_5
    else
      if (6 : Int32) ≤ (ft_5.1 1) then
        some ft_5
      else
        if x4_3 = x2_1 then
          fX2_listBuyable_l1 N L_4 x2_1 x3_2 n (x4_3 + (1 : Int32)) ft_5
        else
          (fX4_countOf N L_4 x4_3 x3_2).bind fun u_10 =>
          if u_10 ≤ 0 then
            fX2_listBuyable_l1 N L_4 x2_1 x3_2 n (x4_3 + (1 : Int32)) ft_5
          else
            if (ft_5.1 1) < 0 ∨ 6 ≤ (ft_5.1 1).toNatClampNeg then none else
            fX2_listBuyable_l1 N L_4 x2_1 x3_2 n (x4_3 + (1 : Int32)) (zpi (zpA ft_5 4 (upd (ft_5.2 4) ((ft_5.1 1).toNatClampNeg) x4_3)) 1 ((ft_5.1 1) + (1 : Int32)))
def fX2_listBuyable (N : Nat) (ft : zOS) (L : zLS) (x2 : Int32) (x3 : Int32) : Option zOS :=
  (fX2_listBuyable_l1 N L x2 x3 N (0 : Int32) (zpi ft 1 (0 : Int32))).bind (fun u_15 =>
    some u_15)
set_option maxHeartbeats 4000000 in
set_option maxRecDepth 100000 in
theorem qX2_listBuyable (l : Launch) (D : va_G) (E : zE) (KL : List Nat) (kc : Nat → zKC) (on : zNS) (rw rd ft tr : zOS) (la : Nat → zLS) (mo : zMS) (j : Nat) (hj : j < 5) (L : zLS) (N sz : Nat) (x2 : Int32) (x3 : Int32) (out : zOS) (hF : fX2_listBuyable N ft L x2 x3 = some out) : zCv l yX2_listBuyable zwX2_listBuyable ({ frames := 1, cells := 0, slots := 0, locals := 23 }) [.ref (E.1 7), .ref (E.1 (13 + 11 * j)), .int x2, .int x3] D E sz (zW E KL kc on rw rd ft tr (va_up la j L) mo) (zW E KL kc on rw rd out tr (va_up la j L) mo) 0 0 := by
  refine zent_v (cc := cX2_listBuyable) (nL := 5) (by decide) rfl (Nat.le_of_ble_eq_true rfl) ?_
  intro p e s m args below meth c Q A hx hb hml hown hts hA hK hP hD hS hE ls hl hend
  have hown : s.vm.findClass RX2 = some m.cls := hown
  have hl : lv_has ls 5 [(0, .ref (E.1 7)), (1, .ref (E.1 (13 + 11 * j))), (2, .int x2), (3, .int x3)] := hl
  rw [fX2_listBuyable] at hF
  refine lv_aload_n hx hb dX2_listBuyable_0 rfl (lv_at hl 0 rfl) ?_
  refine lv_iconst (v := 0) hx hb dX2_listBuyable_1 (by decide) ?_
  refine va_put (D := D) (ci := 2) (v := .int (0 : Int32)) (ty := .int) (C := RX2) (T := TX2) (N := 7) hx hb hts (zi iX2) tyX2 tyX2_ok nmX2 hown hK hP hD hS 7 (zg_ft _ _ _ _ _ _ _ _ _ _) rfl 1 (by decide) (zh hts k0_179) (fun _ h9 => h9) rfl (by decide +kernel) rfl rfl (Nat.le_of_ble_eq_true rfl) dX2_listBuyable_2 (fun H locs hP hD hS => ?_)
  rw [zs_ft_1] at hP hD
  refine lv_iconst (v := 0) hx hb dX2_listBuyable_5 (by decide) ?_
  refine lv_istore (lv' := [(4, .int (0 : Int32)), (0, .ref (E.1 7)), (1, .ref (E.1 (13 + 11 * j))), (2, .int x2), (3, .int x3)]) hx hb dX2_listBuyable_6 hl (by decide) rfl (fun ls hl => ?_)
  obtain ⟨o_13, ho_13, hF⟩ := zbd hF
  have kx_1_0 : ∀ (ft_14 : zOS), ft_14 = o_13 → ∀ (H : Heap) (locs : List Loc) (ls : Array Slot), va_P D vwCl (zW E KL kc on rw rd ft_14 tr (va_up la j L) mo) H → va_D A (zW E KL kc on rw rd ft_14 tr (va_up la j L) mo) → va_S A s.heap H locs → lv_has ls 5 [] → W p l e ({ frames := 1, cells := 0, slots := 0, locals := 23 } : Room) s m args below meth c H locs 0 0 Q (F0 m 69 ls []) := by
    intro ft_14 ho H locs ls hP hD hS hl
    subst ho
    obtain rfl := Option.some.inj hF
    exact hend _ _ _ _ hP hD hS dX2_listBuyable_69
  have lp_1 : ∀ (L_4 : zLS) (x2_1 : Int32) (x3_2 : Int32) (n : Nat) (x4_3 : Int32) (ft_5 : zOS) (o : zOS), fX2_listBuyable_l1 N L_4 x2_1 x3_2 n x4_3 ft_5 = some o → (∀ (ft_14 : zOS), ft_14 = o → ∀ (H : Heap) (locs : List Loc) (ls : Array Slot), va_P D vwCl (zW E KL kc on rw rd ft_14 tr (va_up la j L_4) mo) H → va_D A (zW E KL kc on rw rd ft_14 tr (va_up la j L_4) mo) → va_S A s.heap H locs → lv_has ls 5 [] → W p l e ({ frames := 1, cells := 0, slots := 0, locals := 23 } : Room) s m args below meth c H locs 0 0 Q (F0 m 69 ls [])) → ∀ (H : Heap) (locs : List Loc) (ls : Array Slot), va_P D vwCl (zW E KL kc on rw rd ft_5 tr (va_up la j L_4) mo) H → va_D A (zW E KL kc on rw rd ft_5 tr (va_up la j L_4) mo) → va_S A s.heap H locs → lv_has ls 5 [(0, .ref (E.1 7)), (1, .ref (E.1 (13 + 11 * j))), (2, .int x2_1), (3, .int x3_2), (4, .int x4_3)] → W p l e ({ frames := 1, cells := 0, slots := 0, locals := 23 } : Room) s m args below meth c H locs 0 0 Q (F0 m 8 ls []) := by
    intro L_4 x2_1 x3_2 n
    induction n with
    | zero =>
      intro x4_3 ft_5 o hF
      exact znone hF
    | succ n ih =>
      intro x4_3 ft_5 o hF kx_1_0 H locs ls hP hD hS hl
      rw [fX2_listBuyable_l1] at hF
      refine lv_iload hx hb dX2_listBuyable_8 (lv_at hl 4 rfl) ?_
      refine lv_aload_n hx hb dX2_listBuyable_10 rfl (lv_at hl 1 rfl) ?_
      refine va_get (D := D) (ci := 3) (v := .int (L_4.1.1 6)) (C := RX4) (T := TX4) (N := 19) hx hb hts (zi iX4) hown hK hP (13 + 11 * j) (zg_L _ _ _ _ _ _ _ _ _ _ hj _) rfl 6 (by decide) (zh hts k0_120) (fun _ h9 => h9) rfl dX2_listBuyable_11 ?_
      refine lv_icmp_ge (tgt := 69) hx hb dX2_listBuyable_14 (by decide) (fun c_6 => ?_) (fun c_6 => ?_)
      · have hF := zit c_6 hF
        exact kx_1_0 ft_5 (Option.some.inj hF) _ _ _ hP hD hS (lv_sub hl [] rfl)
      · have hF := zif c_6 hF
        refine lv_aload_n hx hb dX2_listBuyable_17 rfl (lv_at hl 0 rfl) ?_
        refine va_get (D := D) (ci := 2) (v := .int (ft_5.1 1)) (C := RX2) (T := TX2) (N := 7) hx hb hts (zi iX2) hown hK hP 7 (zg_ft _ _ _ _ _ _ _ _ _ _) rfl 1 (by decide) (zh hts k0_179) (fun _ h9 => h9) rfl dX2_listBuyable_18 ?_
        refine lv_bipush (v := 6) hx hb dX2_listBuyable_21 (by decide) ?_
        refine lv_icmp_ge (tgt := 69) hx hb dX2_listBuyable_23 (by decide) (fun c_7 => ?_) (fun c_7 => ?_)
        · have hF := zit c_7 hF
          exact kx_1_0 ft_5 (Option.some.inj hF) _ _ _ hP hD hS (lv_sub hl [] rfl)
        · have hF := zif c_7 hF
          refine lv_iload hx hb dX2_listBuyable_26 (lv_at hl 4 rfl) ?_
          refine lv_iload_n hx hb dX2_listBuyable_28 rfl (lv_at hl 2 rfl) ?_
          refine lv_icmp_eq (tgt := 63) hx hb dX2_listBuyable_29 (by decide) (fun c_8 => ?_) (fun c_8 => ?_)
          · have hF := zit c_8 hF
            refine lv_iinc (v := x4_3 + (1 : Int32)) (lv' := [(4, .int (x4_3 + (1 : Int32))), (0, .ref (E.1 7)), (1, .ref (E.1 (13 + 11 * j))), (2, .int x2_1), (3, .int x3_2)]) hx hb dX2_listBuyable_63 hl (k := 4) rfl rfl (by decide) rfl (fun ls hl => ?_)
            refine lv_goto (tgt := 8) hx hb dX2_listBuyable_66 (by decide) ?_
            exact ih (x4_3 + (1 : Int32)) ft_5 _ hF kx_1_0 _ _ _ hP hD hS (lv_sub hl [1, 2, 3, 4, 0] rfl)
          · have hF := zif c_8 hF
            refine lv_aload_n hx hb dX2_listBuyable_32 rfl (lv_at hl 1 rfl) ?_
            refine lv_iload hx hb dX2_listBuyable_33 (lv_at hl 4 rfl) ?_
            refine lv_iload_n hx hb dX2_listBuyable_35 rfl (lv_at hl 3 rfl) ?_
            have hrv_9 := (va_recv hK hP (ci := 3) (q0 := 13 + 11 * j) rfl (zg_L _ _ _ _ _ _ _ _ _ _ hj _))
            obtain ⟨u_10, hu_10, hF⟩ := zbd hF
            refine zcall_i (va_runV (As := [.int x4_3, .int x3_2]) (rest := []) ⟨hx, hb, hml, hown, hts⟩ (qX4_countOf l D E KL kc on rw rd ft_5 tr la mo j hj L_4 N _ x4_3 x3_2 _ hu_10) (cwV 2 hts (zgV k3_73 k2_134 k2_135 k0_6 k2_136) rfl rfl rfl (by decide +kernel) ⟨Nat.le_of_ble_eq_true rfl, Nat.le_of_ble_eq_true rfl⟩) (zpv hE hS hA hK hP hD hrv_9) rfl rfl hl.1 rfl (lv_room (Nat.le_of_ble_eq_true rfl)) dX2_listBuyable_36 ⟨Nat.zero_le _, Nat.zero_le _⟩) hD hS hA (fun H locs hP hD hS => ?_)
            refine lv_if_le (tgt := 63) hx hb dX2_listBuyable_39 (by decide) (fun c_11 => ?_) (fun c_11 => ?_)
            · have hF := zit c_11 hF
              refine lv_iinc (v := x4_3 + (1 : Int32)) (lv' := [(4, .int (x4_3 + (1 : Int32))), (0, .ref (E.1 7)), (1, .ref (E.1 (13 + 11 * j))), (2, .int x2_1), (3, .int x3_2)]) hx hb dX2_listBuyable_63 hl (k := 4) rfl rfl (by decide) rfl (fun ls hl => ?_)
              refine lv_goto (tgt := 8) hx hb dX2_listBuyable_66 (by decide) ?_
              exact ih (x4_3 + (1 : Int32)) ft_5 _ hF kx_1_0 _ _ _ hP hD hS (lv_sub hl [1, 2, 3, 4, 0] rfl)
            · have hF := zif c_11 hF
              refine lv_aload_n hx hb dX2_listBuyable_42 rfl (lv_at hl 0 rfl) ?_
              refine va_get (D := D) (ci := 2) (v := .ref (E.1 8)) (C := RX2) (T := TX2) (N := 7) hx hb hts (zi iX2) hown hK hP 7 (zg_ft _ _ _ _ _ _ _ _ _ _) rfl 4 (by decide) (zh hts k0_182) (fun _ h9 => h9) rfl dX2_listBuyable_43 ?_
              refine lv_aload_n hx hb dX2_listBuyable_46 rfl (lv_at hl 0 rfl) ?_
              refine va_get (D := D) (ci := 2) (v := .int (ft_5.1 1)) (C := RX2) (T := TX2) (N := 7) hx hb hts (zi iX2) hown hK hP 7 (zg_ft _ _ _ _ _ _ _ _ _ _) rfl 1 (by decide) (zh hts k0_179) (fun _ h9 => h9) rfl dX2_listBuyable_47 ?_
              refine lv_iload hx hb dX2_listBuyable_50 (lv_at hl 4 rfl) ?_
              obtain ⟨g_12, hF⟩ := zgd hF
              refine va_iast hx hb hK hP hD hS 8 1 (zg_ft_4 _ _ _ _ _ _ _ _ _ _) rfl g_12 dX2_listBuyable_52 (fun H locs hP hD hS => ?_)
              rw [zs_ft_4] at hP hD
              have hP : va_P D vwCl (zW E KL kc on rw rd (zpA ft_5 4 (upd (ft_5.2 4) ((ft_5.1 1).toNatClampNeg) x4_3)) tr (va_up la j L_4) mo) H := hP
              have hD : va_D A (zW E KL kc on rw rd (zpA ft_5 4 (upd (ft_5.2 4) ((ft_5.1 1).toNatClampNeg) x4_3)) tr (va_up la j L_4) mo) := hD
              refine lv_aload_n hx hb dX2_listBuyable_53 rfl (lv_at hl 0 rfl) ?_
              refine lv_dup hx hb dX2_listBuyable_54 rfl ?_
              refine va_get (D := D) (ci := 2) (v := .int (ft_5.1 1)) (C := RX2) (T := TX2) (N := 7) hx hb hts (zi iX2) hown hK hP 7 (zg_ft _ _ _ _ _ _ _ _ _ _) rfl 1 (by decide) (zh hts k0_179) (fun _ h9 => h9) rfl dX2_listBuyable_55 ?_
              refine lv_iconst (v := 1) hx hb dX2_listBuyable_58 (by decide) ?_
              refine lv_iadd hx hb dX2_listBuyable_59 ?_
              refine va_put (D := D) (ci := 2) (v := .int ((ft_5.1 1) + (1 : Int32))) (ty := .int) (C := RX2) (T := TX2) (N := 7) hx hb hts (zi iX2) tyX2 tyX2_ok nmX2 hown hK hP hD hS 7 (zg_ft _ _ _ _ _ _ _ _ _ _) rfl 1 (by decide) (zh hts k0_179) (fun _ h9 => h9) rfl (by decide +kernel) rfl rfl (Nat.le_of_ble_eq_true rfl) dX2_listBuyable_60 (fun H locs hP hD hS => ?_)
              rw [zs_ft_1] at hP hD
              refine lv_iinc (v := x4_3 + (1 : Int32)) (lv' := [(4, .int (x4_3 + (1 : Int32))), (0, .ref (E.1 7)), (1, .ref (E.1 (13 + 11 * j))), (2, .int x2_1), (3, .int x3_2)]) hx hb dX2_listBuyable_63 hl (k := 4) rfl rfl (by decide) rfl (fun ls hl => ?_)
              refine lv_goto (tgt := 8) hx hb dX2_listBuyable_66 (by decide) ?_
              exact ih (x4_3 + (1 : Int32)) (zpi (zpA ft_5 4 (upd (ft_5.2 4) ((ft_5.1 1).toNatClampNeg) x4_3)) 1 ((ft_5.1 1) + (1 : Int32))) _ hF kx_1_0 _ _ _ hP hD hS (lv_sub hl [1, 2, 3, 4, 0] rfl)
  exact lp_1 L x2 x3 N (0 : Int32) (zpi ft 1 (0 : Int32)) _ ho_13 kx_1_0 _ _ _ hP hD hS (lv_sub hl [1, 2, 3, 4, 0] rfl)
def fX2_sumOf_l1 (N : Nat) (KL : List Nat) (kc : Nat → zKC) (ft_4 : zOS) (L_5 : zLS) (x2_1 : Int32) : Nat → Int32 → Int32 → Option Int32
  | 0, _, _ => none
  | n + 1, x3_2, x4_3 =>
    if (ft_4.1 1) ≤ x4_3 then
      some x3_2
    else
      if (6 : Int32) ≤ x4_3 then
        some x3_2
      else
        if x4_3 < 0 ∨ 6 ≤ x4_3.toNatClampNeg then none else
        (fX4_keeperAt N KL kc L_5 (ft_4.2 4 x4_3.toNatClampNeg)).bind fun u_10 =>
        match u_10 with
        | none =>
          fX2_sumOf_l1 N KL kc ft_4 L_5 x2_1 n x3_2 (x4_3 + (1 : Int32))
        | some a_11 =>
          if ¬ zkd KL kc a_11 then none else
          fX2_sumOf_l1 N KL kc ft_4 L_5 x2_1 n (x3_2 + (((x2_1 * ((100 : Int32) + ((10 : Int32) * x4_3))) * ((100 : Int32) + ((kc a_11).2.2.1))) / (10000 : Int32))) (x4_3 + (1 : Int32))
def fX2_sumOf (N : Nat) (KL : List Nat) (kc : Nat → zKC) (ft : zOS) (L : zLS) (x2 : Int32) : Option Int32 :=
  (fX2_sumOf_l1 N KL kc ft L x2 N (0 : Int32) (0 : Int32)).bind (fun u_16 =>
    some u_16)
set_option maxHeartbeats 4000000 in
set_option maxRecDepth 100000 in
theorem qX2_sumOf (l : Launch) (D : va_G) (E : zE) (KL : List Nat) (kc : Nat → zKC) (on : zNS) (rw rd ft tr : zOS) (la : Nat → zLS) (mo : zMS) (j : Nat) (hj : j < 5) (L : zLS) (N sz : Nat) (x2 : Int32) (out : Int32) (hF : fX2_sumOf N KL kc ft L x2 = some out) : zCi l yX2_sumOf zwX2_sumOf ({ frames := 1, cells := 0, slots := 0, locals := 21 }) [.ref (E.1 7), .ref (E.1 (13 + 11 * j)), .int x2] D E sz (zW E KL kc on rw rd ft tr (va_up la j L) mo) (zW E KL kc on rw rd ft tr (va_up la j L) mo) out 0 0 := by
  refine zent_i (cc := cX2_sumOf) (nL := 6) (by decide) rfl (Nat.le_of_ble_eq_true rfl) ?_
  intro p e s m args below meth c Q A hx hb hml hown hts hA hK hP hD hS hE ls hl hend
  have hown : s.vm.findClass RX2 = some m.cls := hown
  have hl : lv_has ls 6 [(0, .ref (E.1 7)), (1, .ref (E.1 (13 + 11 * j))), (2, .int x2)] := hl
  rw [fX2_sumOf] at hF
  refine lv_iconst (v := 0) hx hb dX2_sumOf_0 (by decide) ?_
  refine lv_istore_n (lv' := [(3, .int (0 : Int32)), (0, .ref (E.1 7)), (1, .ref (E.1 (13 + 11 * j))), (2, .int x2)]) hx hb dX2_sumOf_1 rfl hl (by decide) rfl (fun ls hl => ?_)
  refine lv_iconst (v := 0) hx hb dX2_sumOf_2 (by decide) ?_
  refine lv_istore (lv' := [(4, .int (0 : Int32)), (3, .int (0 : Int32)), (0, .ref (E.1 7)), (1, .ref (E.1 (13 + 11 * j))), (2, .int x2)]) hx hb dX2_sumOf_3 hl (by decide) rfl (fun ls hl => ?_)
  obtain ⟨o_14, ho_14, hF⟩ := zbd hF
  have kx_1_0 : ∀ (x3_15 : Int32), x3_15 = o_14 → ∀ (H : Heap) (locs : List Loc) (ls : Array Slot), va_P D vwCl (zW E KL kc on rw rd ft tr (va_up la j L) mo) H → va_D A (zW E KL kc on rw rd ft tr (va_up la j L) mo) → va_S A s.heap H locs → lv_has ls 6 [(3, .int x3_15)] → W p l e ({ frames := 1, cells := 0, slots := 0, locals := 21 } : Room) s m args below meth c H locs 0 0 Q (F0 m 71 ls []) := by
    intro x3_15 ho H locs ls hP hD hS hl
    subst ho
    refine lv_iload_n hx hb dX2_sumOf_71 rfl (lv_at hl 0 rfl) ?_
    obtain rfl := Option.some.inj hF
    exact hend _ _ _ _ hP hD hS dX2_sumOf_72
  have lp_1 : ∀ (ft_4 : zOS) (L_5 : zLS) (x2_1 : Int32) (n : Nat) (x3_2 : Int32) (x4_3 : Int32) (o : Int32), fX2_sumOf_l1 N KL kc ft_4 L_5 x2_1 n x3_2 x4_3 = some o → (∀ (x3_15 : Int32), x3_15 = o → ∀ (H : Heap) (locs : List Loc) (ls : Array Slot), va_P D vwCl (zW E KL kc on rw rd ft_4 tr (va_up la j L_5) mo) H → va_D A (zW E KL kc on rw rd ft_4 tr (va_up la j L_5) mo) → va_S A s.heap H locs → lv_has ls 6 [(3, .int x3_15)] → W p l e ({ frames := 1, cells := 0, slots := 0, locals := 21 } : Room) s m args below meth c H locs 0 0 Q (F0 m 71 ls [])) → ∀ (H : Heap) (locs : List Loc) (ls : Array Slot), va_P D vwCl (zW E KL kc on rw rd ft_4 tr (va_up la j L_5) mo) H → va_D A (zW E KL kc on rw rd ft_4 tr (va_up la j L_5) mo) → va_S A s.heap H locs → lv_has ls 6 [(0, .ref (E.1 7)), (1, .ref (E.1 (13 + 11 * j))), (2, .int x2_1), (3, .int x3_2), (4, .int x4_3)] → W p l e ({ frames := 1, cells := 0, slots := 0, locals := 21 } : Room) s m args below meth c H locs 0 0 Q (F0 m 5 ls []) := by
    intro ft_4 L_5 x2_1 n
    induction n with
    | zero =>
      intro x3_2 x4_3 o hF
      exact znone hF
    | succ n ih =>
      intro x3_2 x4_3 o hF kx_1_0 H locs ls hP hD hS hl
      rw [fX2_sumOf_l1] at hF
      refine lv_iload hx hb dX2_sumOf_5 (lv_at hl 4 rfl) ?_
      refine lv_aload_n hx hb dX2_sumOf_7 rfl (lv_at hl 0 rfl) ?_
      refine va_get (D := D) (ci := 2) (v := .int (ft_4.1 1)) (C := RX2) (T := TX2) (N := 7) hx hb hts (zi iX2) hown hK hP 7 (zg_ft _ _ _ _ _ _ _ _ _ _) rfl 1 (by decide) (zh hts k0_179) (fun _ h9 => h9) rfl dX2_sumOf_8 ?_
      refine lv_icmp_ge (tgt := 71) hx hb dX2_sumOf_11 (by decide) (fun c_6 => ?_) (fun c_6 => ?_)
      · have hF := zit c_6 hF
        exact kx_1_0 x3_2 (Option.some.inj hF) _ _ _ hP hD hS (lv_sub hl [3] rfl)
      · have hF := zif c_6 hF
        refine lv_iload hx hb dX2_sumOf_14 (lv_at hl 4 rfl) ?_
        refine lv_bipush (v := 6) hx hb dX2_sumOf_16 (by decide) ?_
        refine lv_icmp_ge (tgt := 71) hx hb dX2_sumOf_18 (by decide) (fun c_7 => ?_) (fun c_7 => ?_)
        · have hF := zit c_7 hF
          exact kx_1_0 x3_2 (Option.some.inj hF) _ _ _ hP hD hS (lv_sub hl [3] rfl)
        · have hF := zif c_7 hF
          refine lv_aload_n hx hb dX2_sumOf_21 rfl (lv_at hl 1 rfl) ?_
          refine lv_aload_n hx hb dX2_sumOf_22 rfl (lv_at hl 0 rfl) ?_
          refine va_get (D := D) (ci := 2) (v := .ref (E.1 8)) (C := RX2) (T := TX2) (N := 7) hx hb hts (zi iX2) hown hK hP 7 (zg_ft _ _ _ _ _ _ _ _ _ _) rfl 4 (by decide) (zh hts k0_182) (fun _ h9 => h9) rfl dX2_sumOf_23 ?_
          refine lv_iload hx hb dX2_sumOf_26 (lv_at hl 4 rfl) ?_
          obtain ⟨g_8, hF⟩ := zgd hF
          refine ziald (v := ft_4.2 4 x4_3.toNatClampNeg) hx hb hK hP 8 1 (zg_ft_4 _ _ _ _ _ _ _ _ _ _) rfl g_8 rfl dX2_sumOf_28 ?_
          have hrv_9 := (va_recv hK hP (ci := 3) (q0 := 13 + 11 * j) rfl (zg_L _ _ _ _ _ _ _ _ _ _ hj _))
          obtain ⟨u_10, hu_10, hF⟩ := zbd hF
          refine zcall_q (va_runV (As := [.int (ft_4.2 4 x4_3.toNatClampNeg)]) (rest := []) ⟨hx, hb, hml, hown, hts⟩ (qX4_keeperAt l D E KL kc on rw rd ft_4 tr la mo j hj L_5 N _ (ft_4.2 4 x4_3.toNatClampNeg) _ hu_10) (cwV 1 hts (zgV k3_78 k2_84 k2_85 k0_6 k2_86) rfl rfl rfl (by decide +kernel) ⟨Nat.le_of_ble_eq_true rfl, Nat.le_of_ble_eq_true rfl⟩) (zpv hE hS hA hK hP hD hrv_9) rfl rfl hl.1 rfl (lv_room (Nat.le_of_ble_eq_true rfl)) dX2_sumOf_29 ⟨Nat.zero_le _, Nat.zero_le _⟩) hD hS hA (fun H locs hP hD hS => ?_)
          cases u_10 with
          | none =>
            refine lv_astoreN (lv' := [(5, .null), (0, .ref (E.1 7)), (1, .ref (E.1 (13 + 11 * j))), (2, .int x2_1), (3, .int x3_2), (4, .int x4_3)]) hx hb dX2_sumOf_32 hl (by decide) rfl (fun ls hl => ?_)
            refine lv_aloadN hx hb dX2_sumOf_34 (lv_at hl 0 rfl) ?_
            refine lv_ifnullN (tgt := 65) hx hb dX2_sumOf_36 (by decide) ?_
            refine lv_iinc (v := x4_3 + (1 : Int32)) (lv' := [(4, .int (x4_3 + (1 : Int32))), (5, .null), (0, .ref (E.1 7)), (1, .ref (E.1 (13 + 11 * j))), (2, .int x2_1), (3, .int x3_2)]) hx hb dX2_sumOf_65 hl (k := 5) rfl rfl (by decide) rfl (fun ls hl => ?_)
            refine lv_goto (tgt := 5) hx hb dX2_sumOf_68 (by decide) ?_
            exact ih x3_2 (x4_3 + (1 : Int32)) _ hF kx_1_0 _ _ _ hP hD hS (lv_sub hl [2, 3, 4, 5, 0] rfl)
          | some a_11 =>
            obtain ⟨k_12, hF⟩ := zgd hF
            have k_12 := Decidable.not_not.mp k_12
            have km_11 := k_12.1
            have k_12 := k_12.2
            refine lv_astore (lv' := [(5, .ref a_11), (0, .ref (E.1 7)), (1, .ref (E.1 (13 + 11 * j))), (2, .int x2_1), (3, .int x3_2), (4, .int x4_3)]) hx hb dX2_sumOf_32 hl (by decide) rfl (fun ls hl => ?_)
            refine lv_aload hx hb dX2_sumOf_34 (lv_at hl 0 rfl) ?_
            refine lv_ifnull hx hb dX2_sumOf_36 ?_
            refine lv_iload_n hx hb dX2_sumOf_39 rfl (lv_at hl 4 rfl) ?_
            refine lv_iload_n hx hb dX2_sumOf_40 rfl (lv_at hl 3 rfl) ?_
            refine lv_bipush (v := 100) hx hb dX2_sumOf_41 (by decide) ?_
            refine lv_bipush (v := 10) hx hb dX2_sumOf_43 (by decide) ?_
            refine lv_iload hx hb dX2_sumOf_45 (lv_at hl 5 rfl) ?_
            refine lv_imul hx hb dX2_sumOf_47 ?_
            refine lv_iadd hx hb dX2_sumOf_48 ?_
            refine lv_imul hx hb dX2_sumOf_49 ?_
            refine lv_bipush (v := 100) hx hb dX2_sumOf_50 (by decide) ?_
            refine lv_aload hx hb dX2_sumOf_52 (lv_at hl 0 rfl) ?_
            refine zgetK (v := (kc a_11).2.2.1) hx hb hts hown hK hP km_11 (by omega) 1 (by decide) (name := "n") rfl (zh hts k2_14) (fun _ h9 => h9) rfl dX2_sumOf_54 ?_
            refine lv_iadd hx hb dX2_sumOf_57 ?_
            refine lv_imul hx hb dX2_sumOf_58 ?_
            refine lv_sipush (v := 10000) hx hb dX2_sumOf_59 (by decide) ?_
            refine lv_idiv hx hb dX2_sumOf_62 (by decide) ?_
            refine lv_iadd hx hb dX2_sumOf_63 ?_
            refine lv_istore_n (lv' := [(3, .int (x3_2 + (((x2_1 * ((100 : Int32) + ((10 : Int32) * x4_3))) * ((100 : Int32) + ((kc a_11).2.2.1))) / (10000 : Int32)))), (5, .ref a_11), (0, .ref (E.1 7)), (1, .ref (E.1 (13 + 11 * j))), (2, .int x2_1), (4, .int x4_3)]) hx hb dX2_sumOf_64 rfl hl (by decide) rfl (fun ls hl => ?_)
            refine lv_iinc (v := x4_3 + (1 : Int32)) (lv' := [(4, .int (x4_3 + (1 : Int32))), (3, .int (x3_2 + (((x2_1 * ((100 : Int32) + ((10 : Int32) * x4_3))) * ((100 : Int32) + ((kc a_11).2.2.1))) / (10000 : Int32)))), (5, .ref a_11), (0, .ref (E.1 7)), (1, .ref (E.1 (13 + 11 * j))), (2, .int x2_1)]) hx hb dX2_sumOf_65 hl (k := 5) rfl rfl (by decide) rfl (fun ls hl => ?_)
            refine lv_goto (tgt := 5) hx hb dX2_sumOf_68 (by decide) ?_
            exact ih (x3_2 + (((x2_1 * ((100 : Int32) + ((10 : Int32) * x4_3))) * ((100 : Int32) + ((kc a_11).2.2.1))) / (10000 : Int32))) (x4_3 + (1 : Int32)) _ hF kx_1_0 _ _ _ hP hD hS (lv_sub hl [3, 4, 5, 1, 0] rfl)
  exact lp_1 ft L x2 N (0 : Int32) (0 : Int32) _ ho_14 kx_1_0 _ _ _ hP hD hS (lv_sub hl [2, 3, 4, 1, 0] rfl)
def fX2_stepOrder_l1 (N : Nat) (ft_2 : zOS) : Nat → Int32 → Option Int32
  | 0, _ => none
  | n + 1, x1_1 =>
    if x1_1 < 0 then
      some x1_1
    else
      if (6 : Int32) ≤ (x1_1 + (1 : Int32)) then
        some x1_1
      else
        if x1_1 < 0 ∨ 6 ≤ x1_1.toNatClampNeg then none else
        if (x1_1 + (1 : Int32)) < 0 ∨ 6 ≤ (x1_1 + (1 : Int32)).toNatClampNeg then none else
        if (ft_2.2 4 x1_1.toNatClampNeg) ≤ (ft_2.2 4 ((x1_1 + (1 : Int32)).toNatClampNeg)) then
          some x1_1
        else
          fX2_stepOrder_l1 N ft_2 n (x1_1 + (-1 : Int32))
def fX2_stepOrder_l2 (N : Nat) (ft_13 : zOS) (x1_11 : Int32) : Nat → Int32 → Option Int32
  | 0, _ => none
  | n + 1, x2_12 =>
    if x2_12 ≤ x1_11 then
      some x2_12
    else
      if (6 : Int32) ≤ x2_12 then
        some x2_12
      else
        if x2_12 < 0 ∨ 6 ≤ x2_12.toNatClampNeg then none else
        if x1_11 < 0 ∨ 6 ≤ x1_11.toNatClampNeg then none else
        if (ft_13.2 4 x1_11.toNatClampNeg) ≤ (ft_13.2 4 x2_12.toNatClampNeg) then
          some x2_12
        else
          fX2_stepOrder_l2 N ft_13 x1_11 n (x2_12 + (-1 : Int32))
def fX2_stepOrder_l3 (N : Nat) : Nat → Int32 → Int32 → zOS → Option zOS
  | 0, _, _, _ => none
  | n + 1, x3_22, x4_23, ft_24 =>
    if x4_23 ≤ x3_22 then
      some ft_24
    else
      (fX2_swap N ft_24 x3_22 x4_23).bind fun u_26 =>
      fX2_stepOrder_l3 N n (x3_22 + (1 : Int32)) (x4_23 + (-1 : Int32)) u_26
def fX2_stepOrder (N : Nat) (ft : zOS) : Option (Int32 × zOS) :=
  (fX2_stepOrder_l1 N ft N ((ft.1 1) - (2 : Int32))).bind (fun u_31 =>
    if 0 ≤ u_31 then
      (fX2_stepOrder_l2 N ft u_31 N ((ft.1 1) - (1 : Int32))).bind (fun u_30 =>
        (fX2_swap N ft u_31 u_30).bind fun u_21 =>
        (fX2_stepOrder_l3 N N (u_31 + (1 : Int32)) ((u_21.1 1) - (1 : Int32)) u_21).bind (fun u_29 =>
          some ((1 : Int32), u_29)))
    else
      some ((0 : Int32), ft))
set_option maxHeartbeats 4000000 in
set_option maxRecDepth 100000 in
theorem qX2_stepOrder (l : Launch) (D : va_G) (E : zE) (KL : List Nat) (kc : Nat → zKC) (on : zNS) (rw rd ft tr : zOS) (la : Nat → zLS) (mo : zMS) (N sz : Nat)  (out : Int32 × zOS) (hF : fX2_stepOrder N ft = some out) : zCi l yX2_stepOrder zwX2_stepOrder ({ frames := 1, cells := 0, slots := 0, locals := 23 }) [.ref (E.1 7)] D E sz (zW E KL kc on rw rd ft tr la mo) (zW E KL kc on rw rd out.2 tr la mo) out.1 0 0 := by
  refine zent_z (cc := cX2_stepOrder) (nL := 5) (by decide) rfl (Nat.le_of_ble_eq_true rfl) ?_
  intro p e s m args below meth c Q A hx hb hml hown hts hA hK hP hD hS hE ls hl hend
  have hown : s.vm.findClass RX2 = some m.cls := hown
  have hl : lv_has ls 5 [(0, .ref (E.1 7))] := hl
  rw [fX2_stepOrder] at hF
  refine lv_aload_n hx hb dX2_stepOrder_0 rfl (lv_at hl 0 rfl) ?_
  refine va_get (D := D) (ci := 2) (v := .int (ft.1 1)) (C := RX2) (T := TX2) (N := 7) hx hb hts (zi iX2) hown hK hP 7 (zg_ft _ _ _ _ _ _ _ _ _ _) rfl 1 (by decide) (zh hts k0_179) (fun _ h9 => h9) rfl dX2_stepOrder_1 ?_
  refine lv_iconst (v := 2) hx hb dX2_stepOrder_4 (by decide) ?_
  refine lv_isub hx hb dX2_stepOrder_5 ?_
  refine lv_istore_n (lv' := [(1, .int ((ft.1 1) - (2 : Int32))), (0, .ref (E.1 7))]) hx hb dX2_stepOrder_6 rfl hl (by decide) rfl (fun ls hl => ?_)
  obtain ⟨o_8, ho_8, hF⟩ := zbd hF
  have kx_1_0 : ∀ (x1_9 : Int32), x1_9 = o_8 → ∀ (H : Heap) (locs : List Loc) (ls : Array Slot), va_P D vwCl (zW E KL kc on rw rd ft tr la mo) H → va_D A (zW E KL kc on rw rd ft tr la mo) → va_S A s.heap H locs → lv_has ls 5 [(0, .ref (E.1 7)), (1, .int x1_9)] → W p l e ({ frames := 1, cells := 0, slots := 0, locals := 23 } : Room) s m args below meth c H locs 0 0 Q (F0 m 42 ls []) := by
    intro x1_9 ho H locs ls hP hD hS hl
    subst ho
    refine lv_iload_n hx hb dX2_stepOrder_42 rfl (lv_at hl 1 rfl) ?_
    refine lv_if_ge (tgt := 48) hx hb dX2_stepOrder_43 (by decide) (fun c_10 => ?_) (fun c_10 => ?_)
    · have hF := zit c_10 hF
      refine lv_aload_n hx hb dX2_stepOrder_48 rfl (lv_at hl 0 rfl) ?_
      refine va_get (D := D) (ci := 2) (v := .int (ft.1 1)) (C := RX2) (T := TX2) (N := 7) hx hb hts (zi iX2) hown hK hP 7 (zg_ft _ _ _ _ _ _ _ _ _ _) rfl 1 (by decide) (zh hts k0_179) (fun _ h9 => h9) rfl dX2_stepOrder_49 ?_
      refine lv_iconst (v := 1) hx hb dX2_stepOrder_52 (by decide) ?_
      refine lv_isub hx hb dX2_stepOrder_53 ?_
      refine lv_istore_n (lv' := [(2, .int ((ft.1 1) - (1 : Int32))), (0, .ref (E.1 7)), (1, .int x1_9)]) hx hb dX2_stepOrder_54 rfl hl (by decide) rfl (fun ls hl => ?_)
      obtain ⟨o_19, ho_19, hF⟩ := zbd hF
      have kx_2_0 : ∀ (x2_20 : Int32), x2_20 = o_19 → ∀ (H : Heap) (locs : List Loc) (ls : Array Slot), va_P D vwCl (zW E KL kc on rw rd ft tr la mo) H → va_D A (zW E KL kc on rw rd ft tr la mo) → va_S A s.heap H locs → lv_has ls 5 [(0, .ref (E.1 7)), (1, .int x1_9), (2, .int x2_20)] → W p l e ({ frames := 1, cells := 0, slots := 0, locals := 23 } : Room) s m args below meth c H locs 0 0 Q (F0 m 87 ls []) := by
        intro x2_20 ho H locs ls hP hD hS hl
        subst ho
        refine lv_aload_n hx hb dX2_stepOrder_87 rfl (lv_at hl 0 rfl) ?_
        refine lv_iload_n hx hb dX2_stepOrder_88 rfl (lv_at hl 1 rfl) ?_
        refine lv_iload_n hx hb dX2_stepOrder_89 rfl (lv_at hl 2 rfl) ?_
        obtain ⟨u_21, hu_21, hF⟩ := zbd hF
        refine zcall_v (va_runV (As := [.int x1_9, .int x2_20]) (rest := []) ⟨hx, hb, hml, hown, hts⟩ (qX2_swap l D E KL kc on rw rd ft tr la mo N _ x1_9 x2_20 _ hu_21) (cwV 2 hts (zgV k3_88 k3_90 kp1_12 k0_5 k3_91) rfl rfl rfl (by decide +kernel) ⟨Nat.le_of_ble_eq_true rfl, Nat.le_of_ble_eq_true rfl⟩) (zpv hE hS hA hK hP hD (va_recv hK hP (ci := 2) (q0 := 7) rfl (zg_ft _ _ _ _ _ _ _ _ _ _))) rfl rfl hl.1 rfl (lv_room (Nat.le_of_ble_eq_true rfl)) dX2_stepOrder_90 ⟨Nat.zero_le _, Nat.zero_le _⟩) hD hS hA (fun H locs hP hD hS => ?_)
        refine lv_iload_n hx hb dX2_stepOrder_93 rfl (lv_at hl 1 rfl) ?_
        refine lv_iconst (v := 1) hx hb dX2_stepOrder_94 (by decide) ?_
        refine lv_iadd hx hb dX2_stepOrder_95 ?_
        refine lv_istore_n (lv' := [(3, .int (x1_9 + (1 : Int32))), (0, .ref (E.1 7)), (1, .int x1_9), (2, .int x2_20)]) hx hb dX2_stepOrder_96 rfl hl (by decide) rfl (fun ls hl => ?_)
        refine lv_aload_n hx hb dX2_stepOrder_97 rfl (lv_at hl 1 rfl) ?_
        refine va_get (D := D) (ci := 2) (v := .int (u_21.1 1)) (C := RX2) (T := TX2) (N := 7) hx hb hts (zi iX2) hown hK hP 7 (zg_ft _ _ _ _ _ _ _ _ _ _) rfl 1 (by decide) (zh hts k0_179) (fun _ h9 => h9) rfl dX2_stepOrder_98 ?_
        refine lv_iconst (v := 1) hx hb dX2_stepOrder_101 (by decide) ?_
        refine lv_isub hx hb dX2_stepOrder_102 ?_
        refine lv_istore (lv' := [(4, .int ((u_21.1 1) - (1 : Int32))), (3, .int (x1_9 + (1 : Int32))), (0, .ref (E.1 7)), (1, .int x1_9), (2, .int x2_20)]) hx hb dX2_stepOrder_103 hl (by decide) rfl (fun ls hl => ?_)
        obtain ⟨o_27, ho_27, hF⟩ := zbd hF
        have kx_3_0 : ∀ (ft_28 : zOS), ft_28 = o_27 → ∀ (H : Heap) (locs : List Loc) (ls : Array Slot), va_P D vwCl (zW E KL kc on rw rd ft_28 tr la mo) H → va_D A (zW E KL kc on rw rd ft_28 tr la mo) → va_S A s.heap H locs → lv_has ls 5 [] → W p l e ({ frames := 1, cells := 0, slots := 0, locals := 23 } : Room) s m args below meth c H locs 0 0 Q (F0 m 127 ls []) := by
          intro ft_28 ho H locs ls hP hD hS hl
          subst ho
          refine lv_iconst (v := 1) hx hb dX2_stepOrder_127 (by decide) ?_
          obtain rfl := Option.some.inj hF
          exact hend _ _ _ _ znar1 hP hD hS dX2_stepOrder_128
        have lp_3 : ∀ (n : Nat) (x3_22 : Int32) (x4_23 : Int32) (ft_24 : zOS) (o : zOS), fX2_stepOrder_l3 N n x3_22 x4_23 ft_24 = some o → (∀ (ft_28 : zOS), ft_28 = o → ∀ (H : Heap) (locs : List Loc) (ls : Array Slot), va_P D vwCl (zW E KL kc on rw rd ft_28 tr la mo) H → va_D A (zW E KL kc on rw rd ft_28 tr la mo) → va_S A s.heap H locs → lv_has ls 5 [] → W p l e ({ frames := 1, cells := 0, slots := 0, locals := 23 } : Room) s m args below meth c H locs 0 0 Q (F0 m 127 ls [])) → ∀ (H : Heap) (locs : List Loc) (ls : Array Slot), va_P D vwCl (zW E KL kc on rw rd ft_24 tr la mo) H → va_D A (zW E KL kc on rw rd ft_24 tr la mo) → va_S A s.heap H locs → lv_has ls 5 [(0, .ref (E.1 7)), (3, .int x3_22), (4, .int x4_23)] → W p l e ({ frames := 1, cells := 0, slots := 0, locals := 23 } : Room) s m args below meth c H locs 0 0 Q (F0 m 105 ls []) := by
          intro n
          induction n with
          | zero =>
            intro x3_22 x4_23 ft_24 o hF
            exact znone hF
          | succ n ih =>
            intro x3_22 x4_23 ft_24 o hF kx_3_0 H locs ls hP hD hS hl
            rw [fX2_stepOrder_l3] at hF
            refine lv_iload_n hx hb dX2_stepOrder_105 rfl (lv_at hl 1 rfl) ?_
            refine lv_iload hx hb dX2_stepOrder_106 (lv_at hl 2 rfl) ?_
            refine lv_icmp_ge (tgt := 127) hx hb dX2_stepOrder_108 (by decide) (fun c_25 => ?_) (fun c_25 => ?_)
            · have hF := zit c_25 hF
              exact kx_3_0 ft_24 (Option.some.inj hF) _ _ _ hP hD hS (lv_sub hl [] rfl)
            · have hF := zif c_25 hF
              refine lv_aload_n hx hb dX2_stepOrder_111 rfl (lv_at hl 0 rfl) ?_
              refine lv_iload_n hx hb dX2_stepOrder_112 rfl (lv_at hl 1 rfl) ?_
              refine lv_iload hx hb dX2_stepOrder_113 (lv_at hl 2 rfl) ?_
              obtain ⟨u_26, hu_26, hF⟩ := zbd hF
              refine zcall_v (va_runV (As := [.int x3_22, .int x4_23]) (rest := []) ⟨hx, hb, hml, hown, hts⟩ (qX2_swap l D E KL kc on rw rd ft_24 tr la mo N _ x3_22 x4_23 _ hu_26) (cwV 2 hts (zgV k3_88 k3_90 kp1_12 k0_5 k3_91) rfl rfl rfl (by decide +kernel) ⟨Nat.le_of_ble_eq_true rfl, Nat.le_of_ble_eq_true rfl⟩) (zpv hE hS hA hK hP hD (va_recv hK hP (ci := 2) (q0 := 7) rfl (zg_ft _ _ _ _ _ _ _ _ _ _))) rfl rfl hl.1 rfl (lv_room (Nat.le_of_ble_eq_true rfl)) dX2_stepOrder_115 ⟨Nat.zero_le _, Nat.zero_le _⟩) hD hS hA (fun H locs hP hD hS => ?_)
              refine lv_iinc (v := x3_22 + (1 : Int32)) (lv' := [(3, .int (x3_22 + (1 : Int32))), (0, .ref (E.1 7)), (4, .int x4_23)]) hx hb dX2_stepOrder_118 hl (k := 1) rfl rfl (by decide) rfl (fun ls hl => ?_)
              refine lv_iinc (v := x4_23 + (-1 : Int32)) (lv' := [(4, .int (x4_23 + (-1 : Int32))), (3, .int (x3_22 + (1 : Int32))), (0, .ref (E.1 7))]) hx hb dX2_stepOrder_121 hl (k := 2) rfl rfl (by decide) rfl (fun ls hl => ?_)
              refine lv_goto (tgt := 105) hx hb dX2_stepOrder_124 (by decide) ?_
              exact ih (x3_22 + (1 : Int32)) (x4_23 + (-1 : Int32)) u_26 _ hF kx_3_0 _ _ _ hP hD hS (lv_sub hl [2, 1, 0] rfl)
        exact lp_3 N (x1_9 + (1 : Int32)) ((u_21.1 1) - (1 : Int32)) u_21 _ ho_27 kx_3_0 _ _ _ hP hD hS (lv_sub hl [2, 1, 0] rfl)
      have lp_2 : ∀ (ft_13 : zOS) (x1_11 : Int32) (n : Nat) (x2_12 : Int32) (o : Int32), fX2_stepOrder_l2 N ft_13 x1_11 n x2_12 = some o → (∀ (x2_20 : Int32), x2_20 = o → ∀ (H : Heap) (locs : List Loc) (ls : Array Slot), va_P D vwCl (zW E KL kc on rw rd ft_13 tr la mo) H → va_D A (zW E KL kc on rw rd ft_13 tr la mo) → va_S A s.heap H locs → lv_has ls 5 [(0, .ref (E.1 7)), (1, .int x1_11), (2, .int x2_20)] → W p l e ({ frames := 1, cells := 0, slots := 0, locals := 23 } : Room) s m args below meth c H locs 0 0 Q (F0 m 87 ls [])) → ∀ (H : Heap) (locs : List Loc) (ls : Array Slot), va_P D vwCl (zW E KL kc on rw rd ft_13 tr la mo) H → va_D A (zW E KL kc on rw rd ft_13 tr la mo) → va_S A s.heap H locs → lv_has ls 5 [(0, .ref (E.1 7)), (1, .int x1_11), (2, .int x2_12)] → W p l e ({ frames := 1, cells := 0, slots := 0, locals := 23 } : Room) s m args below meth c H locs 0 0 Q (F0 m 55 ls []) := by
        intro ft_13 x1_11 n
        induction n with
        | zero =>
          intro x2_12 o hF
          exact znone hF
        | succ n ih =>
          intro x2_12 o hF kx_2_0 H locs ls hP hD hS hl
          rw [fX2_stepOrder_l2] at hF
          refine lv_iload_n hx hb dX2_stepOrder_55 rfl (lv_at hl 2 rfl) ?_
          refine lv_iload_n hx hb dX2_stepOrder_56 rfl (lv_at hl 1 rfl) ?_
          refine lv_icmp_le (tgt := 87) hx hb dX2_stepOrder_57 (by decide) (fun c_14 => ?_) (fun c_14 => ?_)
          · have hF := zit c_14 hF
            exact kx_2_0 x2_12 (Option.some.inj hF) _ _ _ hP hD hS (lv_sub hl [0, 1, 2] rfl)
          · have hF := zif c_14 hF
            refine lv_iload_n hx hb dX2_stepOrder_60 rfl (lv_at hl 2 rfl) ?_
            refine lv_bipush (v := 6) hx hb dX2_stepOrder_61 (by decide) ?_
            refine lv_icmp_ge (tgt := 87) hx hb dX2_stepOrder_63 (by decide) (fun c_15 => ?_) (fun c_15 => ?_)
            · have hF := zit c_15 hF
              exact kx_2_0 x2_12 (Option.some.inj hF) _ _ _ hP hD hS (lv_sub hl [0, 1, 2] rfl)
            · have hF := zif c_15 hF
              refine lv_aload_n hx hb dX2_stepOrder_66 rfl (lv_at hl 0 rfl) ?_
              refine va_get (D := D) (ci := 2) (v := .ref (E.1 8)) (C := RX2) (T := TX2) (N := 7) hx hb hts (zi iX2) hown hK hP 7 (zg_ft _ _ _ _ _ _ _ _ _ _) rfl 4 (by decide) (zh hts k0_182) (fun _ h9 => h9) rfl dX2_stepOrder_67 ?_
              refine lv_iload_n hx hb dX2_stepOrder_70 rfl (lv_at hl 2 rfl) ?_
              obtain ⟨g_16, hF⟩ := zgd hF
              refine ziald (v := ft_13.2 4 x2_12.toNatClampNeg) hx hb hK hP 8 1 (zg_ft_4 _ _ _ _ _ _ _ _ _ _) rfl g_16 rfl dX2_stepOrder_71 ?_
              refine lv_aload_n hx hb dX2_stepOrder_72 rfl (lv_at hl 0 rfl) ?_
              refine va_get (D := D) (ci := 2) (v := .ref (E.1 8)) (C := RX2) (T := TX2) (N := 7) hx hb hts (zi iX2) hown hK hP 7 (zg_ft _ _ _ _ _ _ _ _ _ _) rfl 4 (by decide) (zh hts k0_182) (fun _ h9 => h9) rfl dX2_stepOrder_73 ?_
              refine lv_iload_n hx hb dX2_stepOrder_76 rfl (lv_at hl 1 rfl) ?_
              obtain ⟨g_17, hF⟩ := zgd hF
              refine ziald (v := ft_13.2 4 x1_11.toNatClampNeg) hx hb hK hP 8 1 (zg_ft_4 _ _ _ _ _ _ _ _ _ _) rfl g_17 rfl dX2_stepOrder_77 ?_
              refine lv_icmp_ge (tgt := 87) hx hb dX2_stepOrder_78 (by decide) (fun c_18 => ?_) (fun c_18 => ?_)
              · have hF := zit c_18 hF
                exact kx_2_0 x2_12 (Option.some.inj hF) _ _ _ hP hD hS (lv_sub hl [0, 1, 2] rfl)
              · have hF := zif c_18 hF
                refine lv_iinc (v := x2_12 + (-1 : Int32)) (lv' := [(2, .int (x2_12 + (-1 : Int32))), (0, .ref (E.1 7)), (1, .int x1_11)]) hx hb dX2_stepOrder_81 hl (k := 2) rfl rfl (by decide) rfl (fun ls hl => ?_)
                refine lv_goto (tgt := 55) hx hb dX2_stepOrder_84 (by decide) ?_
                exact ih (x2_12 + (-1 : Int32)) _ hF kx_2_0 _ _ _ hP hD hS (lv_sub hl [1, 2, 0] rfl)
      exact lp_2 ft x1_9 N ((ft.1 1) - (1 : Int32)) _ ho_19 kx_2_0 _ _ _ hP hD hS (lv_sub hl [1, 2, 0] rfl)
    · have hF := zif c_10 hF
      refine lv_iconst (v := 0) hx hb dX2_stepOrder_46 (by decide) ?_
      obtain rfl := Option.some.inj hF
      exact hend _ _ _ _ znar0 hP hD hS dX2_stepOrder_47
  have lp_1 : ∀ (ft_2 : zOS) (n : Nat) (x1_1 : Int32) (o : Int32), fX2_stepOrder_l1 N ft_2 n x1_1 = some o → (∀ (x1_9 : Int32), x1_9 = o → ∀ (H : Heap) (locs : List Loc) (ls : Array Slot), va_P D vwCl (zW E KL kc on rw rd ft_2 tr la mo) H → va_D A (zW E KL kc on rw rd ft_2 tr la mo) → va_S A s.heap H locs → lv_has ls 5 [(0, .ref (E.1 7)), (1, .int x1_9)] → W p l e ({ frames := 1, cells := 0, slots := 0, locals := 23 } : Room) s m args below meth c H locs 0 0 Q (F0 m 42 ls [])) → ∀ (H : Heap) (locs : List Loc) (ls : Array Slot), va_P D vwCl (zW E KL kc on rw rd ft_2 tr la mo) H → va_D A (zW E KL kc on rw rd ft_2 tr la mo) → va_S A s.heap H locs → lv_has ls 5 [(0, .ref (E.1 7)), (1, .int x1_1)] → W p l e ({ frames := 1, cells := 0, slots := 0, locals := 23 } : Room) s m args below meth c H locs 0 0 Q (F0 m 7 ls []) := by
    intro ft_2 n
    induction n with
    | zero =>
      intro x1_1 o hF
      exact znone hF
    | succ n ih =>
      intro x1_1 o hF kx_1_0 H locs ls hP hD hS hl
      rw [fX2_stepOrder_l1] at hF
      refine lv_iload_n hx hb dX2_stepOrder_7 rfl (lv_at hl 1 rfl) ?_
      refine lv_if_lt (tgt := 42) hx hb dX2_stepOrder_8 (by decide) (fun c_3 => ?_) (fun c_3 => ?_)
      · have hF := zit c_3 hF
        exact kx_1_0 x1_1 (Option.some.inj hF) _ _ _ hP hD hS (lv_sub hl [0, 1] rfl)
      · have hF := zif c_3 hF
        refine lv_iload_n hx hb dX2_stepOrder_11 rfl (lv_at hl 1 rfl) ?_
        refine lv_iconst (v := 1) hx hb dX2_stepOrder_12 (by decide) ?_
        refine lv_iadd hx hb dX2_stepOrder_13 ?_
        refine lv_bipush (v := 6) hx hb dX2_stepOrder_14 (by decide) ?_
        refine lv_icmp_ge (tgt := 42) hx hb dX2_stepOrder_16 (by decide) (fun c_4 => ?_) (fun c_4 => ?_)
        · have hF := zit c_4 hF
          exact kx_1_0 x1_1 (Option.some.inj hF) _ _ _ hP hD hS (lv_sub hl [0, 1] rfl)
        · have hF := zif c_4 hF
          refine lv_aload_n hx hb dX2_stepOrder_19 rfl (lv_at hl 0 rfl) ?_
          refine va_get (D := D) (ci := 2) (v := .ref (E.1 8)) (C := RX2) (T := TX2) (N := 7) hx hb hts (zi iX2) hown hK hP 7 (zg_ft _ _ _ _ _ _ _ _ _ _) rfl 4 (by decide) (zh hts k0_182) (fun _ h9 => h9) rfl dX2_stepOrder_20 ?_
          refine lv_iload_n hx hb dX2_stepOrder_23 rfl (lv_at hl 1 rfl) ?_
          obtain ⟨g_5, hF⟩ := zgd hF
          refine ziald (v := ft_2.2 4 x1_1.toNatClampNeg) hx hb hK hP 8 1 (zg_ft_4 _ _ _ _ _ _ _ _ _ _) rfl g_5 rfl dX2_stepOrder_24 ?_
          refine lv_aload_n hx hb dX2_stepOrder_25 rfl (lv_at hl 0 rfl) ?_
          refine va_get (D := D) (ci := 2) (v := .ref (E.1 8)) (C := RX2) (T := TX2) (N := 7) hx hb hts (zi iX2) hown hK hP 7 (zg_ft _ _ _ _ _ _ _ _ _ _) rfl 4 (by decide) (zh hts k0_182) (fun _ h9 => h9) rfl dX2_stepOrder_26 ?_
          refine lv_iload_n hx hb dX2_stepOrder_29 rfl (lv_at hl 1 rfl) ?_
          refine lv_iconst (v := 1) hx hb dX2_stepOrder_30 (by decide) ?_
          refine lv_iadd hx hb dX2_stepOrder_31 ?_
          obtain ⟨g_6, hF⟩ := zgd hF
          refine ziald (v := ft_2.2 4 ((x1_1 + (1 : Int32)).toNatClampNeg)) hx hb hK hP 8 1 (zg_ft_4 _ _ _ _ _ _ _ _ _ _) rfl g_6 rfl dX2_stepOrder_32 ?_
          refine lv_icmp_le (tgt := 42) hx hb dX2_stepOrder_33 (by decide) (fun c_7 => ?_) (fun c_7 => ?_)
          · have hF := zit c_7 hF
            exact kx_1_0 x1_1 (Option.some.inj hF) _ _ _ hP hD hS (lv_sub hl [0, 1] rfl)
          · have hF := zif c_7 hF
            refine lv_iinc (v := x1_1 + (-1 : Int32)) (lv' := [(1, .int (x1_1 + (-1 : Int32))), (0, .ref (E.1 7))]) hx hb dX2_stepOrder_36 hl (k := 1) rfl rfl (by decide) rfl (fun ls hl => ?_)
            refine lv_goto (tgt := 7) hx hb dX2_stepOrder_39 (by decide) ?_
            exact ih (x1_1 + (-1 : Int32)) _ hF kx_1_0 _ _ _ hP hD hS (lv_sub hl [1, 0] rfl)
  exact lp_1 ft N ((ft.1 1) - (2 : Int32)) _ ho_8 kx_1_0 _ _ _ hP hD hS (lv_sub hl [1, 0] rfl)
def fX2_takeYears_l1 (N : Nat) (rw_3 : zOS) (L_4 : zLS) (x3_1 : Int32) : Nat → Int32 → zOS → Option (Sum zOS zOS)
  | 0, _, _ => none
  | n + 1, x4_2, ft_5 =>
    if (L_4.1.1 6) ≤ x4_2 then
      some (Sum.inl ft_5)
    else
      if (6 : Int32) ≤ x4_2 then
        some (Sum.inl ft_5)
      else
        (fX7_itemAt N rw_3 x3_1 x4_2).bind fun u_8 =>
        if u_8 < (-1 : Int32) then
          some (Sum.inr ft_5)
        else
          if u_8 ≤ (L_4.1.1 1) then
            if x4_2 < 0 ∨ 6 ≤ x4_2.toNatClampNeg then none else
            if u_8 < 0 then
              fX2_takeYears_l1 N rw_3 L_4 x3_1 n (x4_2 + (1 : Int32)) (zpA ft_5 6 (upd (ft_5.2 6) x4_2.toNatClampNeg u_8))
            else
              fX2_takeYears_l1 N rw_3 L_4 x3_1 n (x4_2 + (1 : Int32)) (zpi (zpA ft_5 6 (upd (ft_5.2 6) x4_2.toNatClampNeg u_8)) 2 ((ft_5.1 2) ||| ((1 : Int32) <<< (x4_2 &&& 31))))
          else
            some (Sum.inr ft_5)
def fX2_takeYears (N : Nat) (rw : zOS) (ft : zOS) (L : zLS) (x3 : Int32) : Option (Int32 × zOS) :=
  (fX2_takeYears_l1 N rw L x3 N (0 : Int32) (zpi ft 2 (0 : Int32))).bind (Sum.elim (fun u_15 =>
    some ((1 : Int32), u_15))
  (fun u_17 =>
    some ((0 : Int32), u_17)))
set_option maxHeartbeats 4000000 in
set_option maxRecDepth 100000 in
theorem qX2_takeYears (l : Launch) (D : va_G) (E : zE) (KL : List Nat) (kc : Nat → zKC) (on : zNS) (rw rd ft tr : zOS) (la : Nat → zLS) (mo : zMS) (j : Nat) (hj : j < 5) (L : zLS) (N sz : Nat) (x3 : Int32) (out : Int32 × zOS) (hF : fX2_takeYears N rw ft L x3 = some out) : zCi l yX2_takeYears zwX2_takeYears ({ frames := 3, cells := 0, slots := 0, locals := 64 }) [.ref (E.1 7), .ref (E.1 (13 + 11 * j)), .ref (E.1 1), .int x3] D E sz (zW E KL kc on rw rd ft tr (va_up la j L) mo) (zW E KL kc on rw rd out.2 tr (va_up la j L) mo) out.1 0 0 := by
  refine zent_z (cc := cX2_takeYears) (nL := 6) (by decide) rfl (Nat.le_of_ble_eq_true rfl) ?_
  intro p e s m args below meth c Q A hx hb hml hown hts hA hK hP hD hS hE ls hl hend
  have hown : s.vm.findClass RX2 = some m.cls := hown
  have hl : lv_has ls 6 [(0, .ref (E.1 7)), (1, .ref (E.1 (13 + 11 * j))), (2, .ref (E.1 1)), (3, .int x3)] := hl
  rw [fX2_takeYears] at hF
  refine lv_aload_n hx hb dX2_takeYears_0 rfl (lv_at hl 0 rfl) ?_
  refine lv_iconst (v := 0) hx hb dX2_takeYears_1 (by decide) ?_
  refine va_put (D := D) (ci := 2) (v := .int (0 : Int32)) (ty := .int) (C := RX2) (T := TX2) (N := 7) hx hb hts (zi iX2) tyX2 tyX2_ok nmX2 hown hK hP hD hS 7 (zg_ft _ _ _ _ _ _ _ _ _ _) rfl 2 (by decide) (zh hts k0_180) (fun _ h9 => h9) rfl (by decide +kernel) rfl rfl (Nat.le_of_ble_eq_true rfl) dX2_takeYears_2 (fun H locs hP hD hS => ?_)
  rw [zs_ft_2] at hP hD
  refine lv_iconst (v := 0) hx hb dX2_takeYears_5 (by decide) ?_
  refine lv_istore (lv' := [(4, .int (0 : Int32)), (0, .ref (E.1 7)), (1, .ref (E.1 (13 + 11 * j))), (2, .ref (E.1 1)), (3, .int x3)]) hx hb dX2_takeYears_6 hl (by decide) rfl (fun ls hl => ?_)
  obtain ⟨o_13, ho_13, hF⟩ := zbd hF
  have kx_1_0 : ∀ (ft_14 : zOS), (Sum.inl ft_14) = o_13 → ∀ (H : Heap) (locs : List Loc) (ls : Array Slot), va_P D vwCl (zW E KL kc on rw rd ft_14 tr (va_up la j L) mo) H → va_D A (zW E KL kc on rw rd ft_14 tr (va_up la j L) mo) → va_S A s.heap H locs → lv_has ls 6 [] → W p l e ({ frames := 3, cells := 0, slots := 0, locals := 64 } : Room) s m args below meth c H locs 0 0 Q (F0 m 83 ls []) := by
    intro ft_14 ho H locs ls hP hD hS hl
    subst ho
    have hF := zinl hF
    refine lv_iconst (v := 1) hx hb dX2_takeYears_83 (by decide) ?_
    obtain rfl := Option.some.inj hF
    exact hend _ _ _ _ znar1 hP hD hS dX2_takeYears_84
  have kx_1_1 : ∀ (ft_16 : zOS), (Sum.inr ft_16) = o_13 → ∀ (H : Heap) (locs : List Loc) (ls : Array Slot), va_P D vwCl (zW E KL kc on rw rd ft_16 tr (va_up la j L) mo) H → va_D A (zW E KL kc on rw rd ft_16 tr (va_up la j L) mo) → va_S A s.heap H locs → lv_has ls 6 [] → W p l e ({ frames := 3, cells := 0, slots := 0, locals := 64 } : Room) s m args below meth c H locs 0 0 Q (F0 m 48 ls []) := by
    intro ft_16 ho H locs ls hP hD hS hl
    subst ho
    have hF := zinr hF
    refine lv_iconst (v := 0) hx hb dX2_takeYears_48 (by decide) ?_
    obtain rfl := Option.some.inj hF
    exact hend _ _ _ _ znar0 hP hD hS dX2_takeYears_49
  have lp_1 : ∀ (rw_3 : zOS) (L_4 : zLS) (x3_1 : Int32) (n : Nat) (x4_2 : Int32) (ft_5 : zOS) (o : (Sum zOS zOS)), fX2_takeYears_l1 N rw_3 L_4 x3_1 n x4_2 ft_5 = some o → (∀ (ft_14 : zOS), (Sum.inl ft_14) = o → ∀ (H : Heap) (locs : List Loc) (ls : Array Slot), va_P D vwCl (zW E KL kc on rw_3 rd ft_14 tr (va_up la j L_4) mo) H → va_D A (zW E KL kc on rw_3 rd ft_14 tr (va_up la j L_4) mo) → va_S A s.heap H locs → lv_has ls 6 [] → W p l e ({ frames := 3, cells := 0, slots := 0, locals := 64 } : Room) s m args below meth c H locs 0 0 Q (F0 m 83 ls [])) → (∀ (ft_16 : zOS), (Sum.inr ft_16) = o → ∀ (H : Heap) (locs : List Loc) (ls : Array Slot), va_P D vwCl (zW E KL kc on rw_3 rd ft_16 tr (va_up la j L_4) mo) H → va_D A (zW E KL kc on rw_3 rd ft_16 tr (va_up la j L_4) mo) → va_S A s.heap H locs → lv_has ls 6 [] → W p l e ({ frames := 3, cells := 0, slots := 0, locals := 64 } : Room) s m args below meth c H locs 0 0 Q (F0 m 48 ls [])) → ∀ (H : Heap) (locs : List Loc) (ls : Array Slot), va_P D vwCl (zW E KL kc on rw_3 rd ft_5 tr (va_up la j L_4) mo) H → va_D A (zW E KL kc on rw_3 rd ft_5 tr (va_up la j L_4) mo) → va_S A s.heap H locs → lv_has ls 6 [(0, .ref (E.1 7)), (1, .ref (E.1 (13 + 11 * j))), (2, .ref (E.1 1)), (3, .int x3_1), (4, .int x4_2)] → W p l e ({ frames := 3, cells := 0, slots := 0, locals := 64 } : Room) s m args below meth c H locs 0 0 Q (F0 m 8 ls []) := by
    intro rw_3 L_4 x3_1 n
    induction n with
    | zero =>
      intro x4_2 ft_5 o hF
      exact znone hF
    | succ n ih =>
      intro x4_2 ft_5 o hF kx_1_0 kx_1_1 H locs ls hP hD hS hl
      rw [fX2_takeYears_l1] at hF
      refine lv_iload hx hb dX2_takeYears_8 (lv_at hl 4 rfl) ?_
      refine lv_aload_n hx hb dX2_takeYears_10 rfl (lv_at hl 1 rfl) ?_
      refine va_get (D := D) (ci := 3) (v := .int (L_4.1.1 6)) (C := RX4) (T := TX4) (N := 19) hx hb hts (zi iX4) hown hK hP (13 + 11 * j) (zg_L _ _ _ _ _ _ _ _ _ _ hj _) rfl 6 (by decide) (zh hts k0_120) (fun _ h9 => h9) rfl dX2_takeYears_11 ?_
      refine lv_icmp_ge (tgt := 83) hx hb dX2_takeYears_14 (by decide) (fun c_6 => ?_) (fun c_6 => ?_)
      · have hF := zit c_6 hF
        exact kx_1_0 ft_5 (Option.some.inj hF) _ _ _ hP hD hS (lv_sub hl [] rfl)
      · have hF := zif c_6 hF
        refine lv_iload hx hb dX2_takeYears_17 (lv_at hl 4 rfl) ?_
        refine lv_bipush (v := 6) hx hb dX2_takeYears_19 (by decide) ?_
        refine lv_icmp_ge (tgt := 83) hx hb dX2_takeYears_21 (by decide) (fun c_7 => ?_) (fun c_7 => ?_)
        · have hF := zit c_7 hF
          exact kx_1_0 ft_5 (Option.some.inj hF) _ _ _ hP hD hS (lv_sub hl [] rfl)
        · have hF := zif c_7 hF
          refine lv_aload_n hx hb dX2_takeYears_24 rfl (lv_at hl 2 rfl) ?_
          refine lv_iload_n hx hb dX2_takeYears_25 rfl (lv_at hl 3 rfl) ?_
          refine lv_iload hx hb dX2_takeYears_26 (lv_at hl 4 rfl) ?_
          obtain ⟨u_8, hu_8, hF⟩ := zbd hF
          refine zcall_i (va_runV (As := [.int x3_1, .int x4_2]) (rest := []) ⟨hx, hb, hml, hown, hts⟩ (qX7_itemAt l D E KL kc on rw_3 rd ft_5 tr (va_up la j L_4) mo N _ x3_1 x4_2 _ hu_8) (cwV 2 hts (zgV k3_114 k3_115 k3_116 k0_2 k3_117) rfl rfl rfl (by decide +kernel) ⟨Nat.le_of_ble_eq_true rfl, Nat.le_of_ble_eq_true rfl⟩) (zpv hE hS hA hK hP hD (va_recv hK hP (ci := 6) (q0 := 1) rfl (zg_rw _ _ _ _ _ _ _ _ _ _))) rfl rfl hl.1 rfl (lv_room (Nat.le_of_ble_eq_true rfl)) dX2_takeYears_28 ⟨Nat.zero_le _, Nat.zero_le _⟩) hD hS hA (fun H locs hP hD hS => ?_)
          refine lv_istore (lv' := [(5, .int u_8), (0, .ref (E.1 7)), (1, .ref (E.1 (13 + 11 * j))), (2, .ref (E.1 1)), (3, .int x3_1), (4, .int x4_2)]) hx hb dX2_takeYears_31 hl (by decide) rfl (fun ls hl => ?_)
          refine lv_iload hx hb dX2_takeYears_33 (lv_at hl 0 rfl) ?_
          refine lv_iconst (v := -1) hx hb dX2_takeYears_35 (by decide) ?_
          refine lv_icmp_lt (tgt := 48) hx hb dX2_takeYears_36 (by decide) (fun c_9 => ?_) (fun c_9 => ?_)
          · have hF := zit c_9 hF
            exact kx_1_1 ft_5 (Option.some.inj hF) _ _ _ hP hD hS (lv_sub hl [] rfl)
          · have hF := zif c_9 hF
            refine lv_iload hx hb dX2_takeYears_39 (lv_at hl 0 rfl) ?_
            refine lv_aload_n hx hb dX2_takeYears_41 rfl (lv_at hl 2 rfl) ?_
            refine va_get (D := D) (ci := 3) (v := .int (L_4.1.1 1)) (C := RX4) (T := TX4) (N := 19) hx hb hts (zi iX4) hown hK hP (13 + 11 * j) (zg_L _ _ _ _ _ _ _ _ _ _ hj _) rfl 1 (by decide) (zh hts k0_102) (fun _ h9 => h9) rfl dX2_takeYears_42 ?_
            refine lv_icmp_le (tgt := 50) hx hb dX2_takeYears_45 (by decide) (fun c_10 => ?_) (fun c_10 => ?_)
            · have hF := zit c_10 hF
              refine lv_aload_n hx hb dX2_takeYears_50 rfl (lv_at hl 1 rfl) ?_
              refine va_get (D := D) (ci := 2) (v := .ref (E.1 10)) (C := RX2) (T := TX2) (N := 7) hx hb hts (zi iX2) hown hK hP 7 (zg_ft _ _ _ _ _ _ _ _ _ _) rfl 6 (by decide) (zh hts k0_184) (fun _ h9 => h9) rfl dX2_takeYears_51 ?_
              refine lv_iload hx hb dX2_takeYears_54 (lv_at hl 5 rfl) ?_
              refine lv_iload hx hb dX2_takeYears_56 (lv_at hl 0 rfl) ?_
              obtain ⟨g_11, hF⟩ := zgd hF
              refine va_iast hx hb hK hP hD hS 10 1 (zg_ft_6 _ _ _ _ _ _ _ _ _ _) rfl g_11 dX2_takeYears_58 (fun H locs hP hD hS => ?_)
              rw [zs_ft_6] at hP hD
              have hP : va_P D vwCl (zW E KL kc on rw_3 rd (zpA ft_5 6 (upd (ft_5.2 6) x4_2.toNatClampNeg u_8)) tr (va_up la j L_4) mo) H := hP
              have hD : va_D A (zW E KL kc on rw_3 rd (zpA ft_5 6 (upd (ft_5.2 6) x4_2.toNatClampNeg u_8)) tr (va_up la j L_4) mo) := hD
              refine lv_iload hx hb dX2_takeYears_59 (lv_at hl 0 rfl) ?_
              refine lv_if_lt (tgt := 77) hx hb dX2_takeYears_61 (by decide) (fun c_12 => ?_) (fun c_12 => ?_)
              · have hF := zit c_12 hF
                refine lv_iinc (v := x4_2 + (1 : Int32)) (lv' := [(4, .int (x4_2 + (1 : Int32))), (5, .int u_8), (0, .ref (E.1 7)), (1, .ref (E.1 (13 + 11 * j))), (2, .ref (E.1 1)), (3, .int x3_1)]) hx hb dX2_takeYears_77 hl (k := 5) rfl rfl (by decide) rfl (fun ls hl => ?_)
                refine lv_goto (tgt := 8) hx hb dX2_takeYears_80 (by decide) ?_
                exact ih (x4_2 + (1 : Int32)) (zpA ft_5 6 (upd (ft_5.2 6) x4_2.toNatClampNeg u_8)) _ hF kx_1_0 kx_1_1 _ _ _ hP hD hS (lv_sub hl [2, 3, 4, 5, 0] rfl)
              · have hF := zif c_12 hF
                refine lv_aload_n hx hb dX2_takeYears_64 rfl (lv_at hl 1 rfl) ?_
                refine lv_dup hx hb dX2_takeYears_65 rfl ?_
                refine va_get (D := D) (ci := 2) (v := .int (ft_5.1 2)) (C := RX2) (T := TX2) (N := 7) hx hb hts (zi iX2) hown hK hP 7 (zg_ft _ _ _ _ _ _ _ _ _ _) rfl 2 (by decide) (zh hts k0_180) (fun _ h9 => h9) rfl dX2_takeYears_66 ?_
                refine lv_iconst (v := 1) hx hb dX2_takeYears_69 (by decide) ?_
                refine lv_iload hx hb dX2_takeYears_70 (lv_at hl 5 rfl) ?_
                refine lv_ishl hx hb dX2_takeYears_72 ?_
                refine lv_ior hx hb dX2_takeYears_73 ?_
                refine va_put (D := D) (ci := 2) (v := .int ((ft_5.1 2) ||| ((1 : Int32) <<< (x4_2 &&& 31)))) (ty := .int) (C := RX2) (T := TX2) (N := 7) hx hb hts (zi iX2) tyX2 tyX2_ok nmX2 hown hK hP hD hS 7 (zg_ft _ _ _ _ _ _ _ _ _ _) rfl 2 (by decide) (zh hts k0_180) (fun _ h9 => h9) rfl (by decide +kernel) rfl rfl (Nat.le_of_ble_eq_true rfl) dX2_takeYears_74 (fun H locs hP hD hS => ?_)
                rw [zs_ft_2] at hP hD
                refine lv_iinc (v := x4_2 + (1 : Int32)) (lv' := [(4, .int (x4_2 + (1 : Int32))), (5, .int u_8), (0, .ref (E.1 7)), (1, .ref (E.1 (13 + 11 * j))), (2, .ref (E.1 1)), (3, .int x3_1)]) hx hb dX2_takeYears_77 hl (k := 5) rfl rfl (by decide) rfl (fun ls hl => ?_)
                refine lv_goto (tgt := 8) hx hb dX2_takeYears_80 (by decide) ?_
                exact ih (x4_2 + (1 : Int32)) (zpi (zpA ft_5 6 (upd (ft_5.2 6) x4_2.toNatClampNeg u_8)) 2 ((ft_5.1 2) ||| ((1 : Int32) <<< (x4_2 &&& 31)))) _ hF kx_1_0 kx_1_1 _ _ _ hP hD hS (lv_sub hl [2, 3, 4, 5, 0] rfl)
            · have hF := zif c_10 hF
              exact kx_1_1 ft_5 (Option.some.inj hF) _ _ _ hP hD hS (lv_sub hl [] rfl)
  exact lp_1 rw L x3 N (0 : Int32) (zpi ft 2 (0 : Int32)) _ ho_13 kx_1_0 kx_1_1 _ _ _ hP hD hS (lv_sub hl [1, 2, 3, 4, 0] rfl)
def fX2_hasSoldJustSo_l1 (N : Nat) (ft_3 : zOS) (T_4 : zLS) (x1_1 : Int32) : Nat → Int32 → Option (Sum Unit Unit)
  | 0, _ => none
  | n + 1, x2_2 =>
    if (T_4.1.1 6) ≤ x2_2 then
      some (Sum.inl ())
    else
      if (6 : Int32) ≤ x2_2 then
        some (Sum.inl ())
      else
        if x2_2 < 0 ∨ 6 ≤ x2_2.toNatClampNeg then none else
        if (ft_3.2 6 x2_2.toNatClampNeg) < 0 then
          (fX4_soldBy N T_4 x2_2).bind fun u_10 =>
          if u_10 = (1 : Int32) then
            some (Sum.inr ())
          else
            fX2_hasSoldJustSo_l1 N ft_3 T_4 x1_1 n (x2_2 + (1 : Int32))
        else
          if x2_2 < 0 ∨ 6 ≤ x2_2.toNatClampNeg then none else
          if x1_1 < (ft_3.2 6 x2_2.toNatClampNeg) then
            (fX4_soldBy N T_4 x2_2).bind fun u_17 =>
            if u_17 = (1 : Int32) then
              some (Sum.inr ())
            else
              fX2_hasSoldJustSo_l1 N ft_3 T_4 x1_1 n (x2_2 + (1 : Int32))
          else
            (fX4_soldBy N T_4 x2_2).bind fun u_22 =>
            if u_22 = (1 : Int32) then
              fX2_hasSoldJustSo_l1 N ft_3 T_4 x1_1 n (x2_2 + (1 : Int32))
            else
              some (Sum.inr ())
def fX2_hasSoldJustSo (N : Nat) (ft : zOS) (T : zLS) (x1 : Int32) : Option Int32 :=
  (fX2_hasSoldJustSo_l1 N ft T x1 N (0 : Int32)).bind (Sum.elim (fun _ =>
    some (1 : Int32))
  (fun _ =>
    some (0 : Int32)))
set_option maxHeartbeats 4000000 in
set_option maxRecDepth 100000 in
theorem qX2_hasSoldJustSo (l : Launch) (D : va_G) (E : zE) (KL : List Nat) (kc : Nat → zKC) (on : zNS) (rw rd ft tr : zOS) (la : Nat → zLS) (mo : zMS) (T : zLS) (N sz : Nat) (x1 : Int32) (out : Int32) (hF : fX2_hasSoldJustSo N ft T x1 = some out) : zCi l yX2_hasSoldJustSo zwX2_hasSoldJustSo ({ frames := 2, cells := 0, slots := 0, locals := 42 }) [.ref (E.1 7), .int x1] D E sz (zW E KL kc on rw rd ft tr (va_up la 4 T) mo) (zW E KL kc on rw rd ft tr (va_up la 4 T) mo) out 0 0 := by
  refine zent_z (cc := cX2_hasSoldJustSo) (nL := 4) (by decide) rfl (Nat.le_of_ble_eq_true rfl) ?_
  intro p e s m args below meth c Q A hx hb hml hown hts hA hK hP hD hS hE ls hl hend
  have hown : s.vm.findClass RX2 = some m.cls := hown
  have hl : lv_has ls 4 [(0, .ref (E.1 7)), (1, .int x1)] := hl
  rw [fX2_hasSoldJustSo] at hF
  refine lv_iconst (v := 0) hx hb dX2_hasSoldJustSo_0 (by decide) ?_
  refine lv_istore_n (lv' := [(2, .int (0 : Int32)), (0, .ref (E.1 7)), (1, .int x1)]) hx hb dX2_hasSoldJustSo_1 rfl hl (by decide) rfl (fun ls hl => ?_)
  obtain ⟨o_26, ho_26, hF⟩ := zbd hF
  have kx_1_0 : (Sum.inl ()) = o_26 → ∀ (H : Heap) (locs : List Loc) (ls : Array Slot), va_P D vwCl (zW E KL kc on rw rd ft tr (va_up la 4 T) mo) H → va_D A (zW E KL kc on rw rd ft tr (va_up la 4 T) mo) → va_S A s.heap H locs → lv_has ls 4 [] → W p l e ({ frames := 2, cells := 0, slots := 0, locals := 42 } : Room) s m args below meth c H locs 0 0 Q (F0 m 73 ls []) := by
    intro ho H locs ls hP hD hS hl
    subst ho
    have hF := zinl hF
    refine lv_iconst (v := 1) hx hb dX2_hasSoldJustSo_73 (by decide) ?_
    obtain rfl := Option.some.inj hF
    exact hend _ _ _ _ znar1 hP hD hS dX2_hasSoldJustSo_74
  have kx_1_1 : (Sum.inr ()) = o_26 → ∀ (H : Heap) (locs : List Loc) (ls : Array Slot), va_P D vwCl (zW E KL kc on rw rd ft tr (va_up la 4 T) mo) H → va_D A (zW E KL kc on rw rd ft tr (va_up la 4 T) mo) → va_S A s.heap H locs → lv_has ls 4 [] → W p l e ({ frames := 2, cells := 0, slots := 0, locals := 42 } : Room) s m args below meth c H locs 0 0 Q (F0 m 65 ls []) := by
    intro ho H locs ls hP hD hS hl
    subst ho
    have hF := zinr hF
    refine lv_iconst (v := 0) hx hb dX2_hasSoldJustSo_65 (by decide) ?_
    obtain rfl := Option.some.inj hF
    exact hend _ _ _ _ znar0 hP hD hS dX2_hasSoldJustSo_66
  have lp_1 : ∀ (ft_3 : zOS) (T_4 : zLS) (x1_1 : Int32) (n : Nat) (x2_2 : Int32) (o : (Sum Unit Unit)), fX2_hasSoldJustSo_l1 N ft_3 T_4 x1_1 n x2_2 = some o → ((Sum.inl ()) = o → ∀ (H : Heap) (locs : List Loc) (ls : Array Slot), va_P D vwCl (zW E KL kc on rw rd ft_3 tr (va_up la 4 T_4) mo) H → va_D A (zW E KL kc on rw rd ft_3 tr (va_up la 4 T_4) mo) → va_S A s.heap H locs → lv_has ls 4 [] → W p l e ({ frames := 2, cells := 0, slots := 0, locals := 42 } : Room) s m args below meth c H locs 0 0 Q (F0 m 73 ls [])) → ((Sum.inr ()) = o → ∀ (H : Heap) (locs : List Loc) (ls : Array Slot), va_P D vwCl (zW E KL kc on rw rd ft_3 tr (va_up la 4 T_4) mo) H → va_D A (zW E KL kc on rw rd ft_3 tr (va_up la 4 T_4) mo) → va_S A s.heap H locs → lv_has ls 4 [] → W p l e ({ frames := 2, cells := 0, slots := 0, locals := 42 } : Room) s m args below meth c H locs 0 0 Q (F0 m 65 ls [])) → ∀ (H : Heap) (locs : List Loc) (ls : Array Slot), va_P D vwCl (zW E KL kc on rw rd ft_3 tr (va_up la 4 T_4) mo) H → va_D A (zW E KL kc on rw rd ft_3 tr (va_up la 4 T_4) mo) → va_S A s.heap H locs → lv_has ls 4 [(0, .ref (E.1 7)), (1, .int x1_1), (2, .int x2_2)] → W p l e ({ frames := 2, cells := 0, slots := 0, locals := 42 } : Room) s m args below meth c H locs 0 0 Q (F0 m 2 ls []) := by
    intro ft_3 T_4 x1_1 n
    induction n with
    | zero =>
      intro x2_2 o hF
      exact znone hF
    | succ n ih =>
      intro x2_2 o hF kx_1_0 kx_1_1 H locs ls hP hD hS hl
      rw [fX2_hasSoldJustSo_l1] at hF
      refine lv_iload_n hx hb dX2_hasSoldJustSo_2 rfl (lv_at hl 2 rfl) ?_
      refine lv_aload_n hx hb dX2_hasSoldJustSo_3 rfl (lv_at hl 0 rfl) ?_
      refine va_get (D := D) (ci := 2) (v := .ref (E.1 (13 + 11 * 4))) (C := RX2) (T := TX2) (N := 7) hx hb hts (zi iX2) hown hK hP 7 (zg_ft _ _ _ _ _ _ _ _ _ _) rfl 3 (by decide) (zh hts k0_181) (fun _ h9 => h9) rfl dX2_hasSoldJustSo_4 ?_
      refine va_get (D := D) (ci := 3) (v := .int (T_4.1.1 6)) (C := RX4) (T := TX4) (N := 19) hx hb hts (zi iX4) hown hK hP (13 + 11 * 4) (zg_L _ _ _ _ _ _ _ _ _ _ (show (4 : Nat) < 5 by decide) _) rfl 6 (by decide) (zh hts k0_120) (fun _ h9 => h9) rfl dX2_hasSoldJustSo_7 ?_
      refine lv_icmp_ge (tgt := 73) hx hb dX2_hasSoldJustSo_10 (by decide) (fun c_5 => ?_) (fun c_5 => ?_)
      · have hF := zit c_5 hF
        exact kx_1_0 (Option.some.inj hF) _ _ _ hP hD hS (lv_sub hl [] rfl)
      · have hF := zif c_5 hF
        refine lv_iload_n hx hb dX2_hasSoldJustSo_13 rfl (lv_at hl 2 rfl) ?_
        refine lv_bipush (v := 6) hx hb dX2_hasSoldJustSo_14 (by decide) ?_
        refine lv_icmp_ge (tgt := 73) hx hb dX2_hasSoldJustSo_16 (by decide) (fun c_6 => ?_) (fun c_6 => ?_)
        · have hF := zit c_6 hF
          exact kx_1_0 (Option.some.inj hF) _ _ _ hP hD hS (lv_sub hl [] rfl)
        · have hF := zif c_6 hF
          refine lv_aload_n hx hb dX2_hasSoldJustSo_19 rfl (lv_at hl 0 rfl) ?_
          refine va_get (D := D) (ci := 2) (v := .ref (E.1 10)) (C := RX2) (T := TX2) (N := 7) hx hb hts (zi iX2) hown hK hP 7 (zg_ft _ _ _ _ _ _ _ _ _ _) rfl 6 (by decide) (zh hts k0_184) (fun _ h9 => h9) rfl dX2_hasSoldJustSo_20 ?_
          refine lv_iload_n hx hb dX2_hasSoldJustSo_23 rfl (lv_at hl 2 rfl) ?_
          obtain ⟨g_7, hF⟩ := zgd hF
          refine ziald (v := ft_3.2 6 x2_2.toNatClampNeg) hx hb hK hP 10 1 (zg_ft_6 _ _ _ _ _ _ _ _ _ _) rfl g_7 rfl dX2_hasSoldJustSo_24 ?_
          refine lv_if_lt (tgt := 42) hx hb dX2_hasSoldJustSo_25 (by decide) (fun c_8 => ?_) (fun c_8 => ?_)
          · have hF := zit c_8 hF
            refine lv_iconst (v := 0) hx hb dX2_hasSoldJustSo_42 (by decide) ?_
            refine lv_istore_n (lv' := [(3, .int (0 : Int32)), (0, .ref (E.1 7)), (1, .int x1_1), (2, .int x2_2)]) hx hb dX2_hasSoldJustSo_43 rfl hl (by decide) rfl (fun ls hl => ?_)
            refine lv_iload_n hx hb dX2_hasSoldJustSo_44 rfl (lv_at hl 0 rfl) ?_
            refine lv_aload_n hx hb dX2_hasSoldJustSo_45 rfl (lv_at hl 1 rfl) ?_
            refine va_get (D := D) (ci := 2) (v := .ref (E.1 (13 + 11 * 4))) (C := RX2) (T := TX2) (N := 7) hx hb hts (zi iX2) hown hK hP 7 (zg_ft _ _ _ _ _ _ _ _ _ _) rfl 3 (by decide) (zh hts k0_181) (fun _ h9 => h9) rfl dX2_hasSoldJustSo_46 ?_
            refine lv_iload_n hx hb dX2_hasSoldJustSo_49 rfl (lv_at hl 3 rfl) ?_
            have hrv_9 := (va_recv hK hP (ci := 3) (q0 := 13 + 11 * 4) rfl (zg_L _ _ _ _ _ _ _ _ _ _ (show (4 : Nat) < 5 by decide) _))
            obtain ⟨u_10, hu_10, hF⟩ := zbd hF
            refine zcall_i (va_runV (As := [.int x2_2]) (rest := [.int (0 : Int32)]) ⟨hx, hb, hml, hown, hts⟩ (qX4_soldBy l D E KL kc on rw rd ft_3 tr la mo 4 (show (4 : Nat) < 5 by decide) T_4 N _ x2_2 _ hu_10) (cwV 1 hts (zgV k3_141 k2_232 k2_233 k0_6 k2_234) rfl rfl rfl (by decide +kernel) ⟨Nat.le_of_ble_eq_true rfl, Nat.le_of_ble_eq_true rfl⟩) (zpv hE hS hA hK hP hD hrv_9) rfl rfl hl.1 rfl (lv_room (Nat.le_of_ble_eq_true rfl)) dX2_hasSoldJustSo_50 ⟨Nat.zero_le _, Nat.zero_le _⟩) hD hS hA (fun H locs hP hD hS => ?_)
            refine lv_iconst (v := 1) hx hb dX2_hasSoldJustSo_53 (by decide) ?_
            refine lv_icmp_ne (tgt := 61) hx hb dX2_hasSoldJustSo_54 (by decide) (fun c_11 => ?_) (fun c_11 => ?_)
            · have hF := zif c_11 hF
              refine lv_iconst (v := 0) hx hb dX2_hasSoldJustSo_61 (by decide) ?_
              refine lv_icmp_eq (tgt := 67) hx hb dX2_hasSoldJustSo_62 (by decide) (fun c_12 => ?_) (fun c_12 => ?_)
              · refine lv_iinc (v := x2_2 + (1 : Int32)) (lv' := [(2, .int (x2_2 + (1 : Int32))), (3, .int (0 : Int32)), (0, .ref (E.1 7)), (1, .int x1_1)]) hx hb dX2_hasSoldJustSo_67 hl (k := 3) rfl rfl (by decide) rfl (fun ls hl => ?_)
                refine lv_goto (tgt := 2) hx hb dX2_hasSoldJustSo_70 (by decide) ?_
                exact ih (x2_2 + (1 : Int32)) _ hF kx_1_0 kx_1_1 _ _ _ hP hD hS (lv_sub hl [2, 3, 0] rfl)
              · exact absurd (by decide) c_12
            · have hF := zit c_11 hF
              refine lv_iconst (v := 1) hx hb dX2_hasSoldJustSo_57 (by decide) ?_
              refine lv_goto (tgt := 62) hx hb dX2_hasSoldJustSo_58 (by decide) ?_
              refine lv_icmp_eq (tgt := 67) hx hb dX2_hasSoldJustSo_62 (by decide) (fun c_13 => ?_) (fun c_13 => ?_)
              · exact absurd c_13 (by decide)
              · exact kx_1_1 (Option.some.inj hF) _ _ _ hP hD hS (lv_sub hl [] rfl)
          · have hF := zif c_8 hF
            refine lv_aload_n hx hb dX2_hasSoldJustSo_28 rfl (lv_at hl 0 rfl) ?_
            refine va_get (D := D) (ci := 2) (v := .ref (E.1 10)) (C := RX2) (T := TX2) (N := 7) hx hb hts (zi iX2) hown hK hP 7 (zg_ft _ _ _ _ _ _ _ _ _ _) rfl 6 (by decide) (zh hts k0_184) (fun _ h9 => h9) rfl dX2_hasSoldJustSo_29 ?_
            refine lv_iload_n hx hb dX2_hasSoldJustSo_32 rfl (lv_at hl 2 rfl) ?_
            obtain ⟨g_14, hF⟩ := zgd hF
            refine ziald (v := ft_3.2 6 x2_2.toNatClampNeg) hx hb hK hP 10 1 (zg_ft_6 _ _ _ _ _ _ _ _ _ _) rfl g_14 rfl dX2_hasSoldJustSo_33 ?_
            refine lv_iload_n hx hb dX2_hasSoldJustSo_34 rfl (lv_at hl 1 rfl) ?_
            refine lv_icmp_gt (tgt := 42) hx hb dX2_hasSoldJustSo_35 (by decide) (fun c_15 => ?_) (fun c_15 => ?_)
            · have hF := zit c_15 hF
              refine lv_iconst (v := 0) hx hb dX2_hasSoldJustSo_42 (by decide) ?_
              refine lv_istore_n (lv' := [(3, .int (0 : Int32)), (0, .ref (E.1 7)), (1, .int x1_1), (2, .int x2_2)]) hx hb dX2_hasSoldJustSo_43 rfl hl (by decide) rfl (fun ls hl => ?_)
              refine lv_iload_n hx hb dX2_hasSoldJustSo_44 rfl (lv_at hl 0 rfl) ?_
              refine lv_aload_n hx hb dX2_hasSoldJustSo_45 rfl (lv_at hl 1 rfl) ?_
              refine va_get (D := D) (ci := 2) (v := .ref (E.1 (13 + 11 * 4))) (C := RX2) (T := TX2) (N := 7) hx hb hts (zi iX2) hown hK hP 7 (zg_ft _ _ _ _ _ _ _ _ _ _) rfl 3 (by decide) (zh hts k0_181) (fun _ h9 => h9) rfl dX2_hasSoldJustSo_46 ?_
              refine lv_iload_n hx hb dX2_hasSoldJustSo_49 rfl (lv_at hl 3 rfl) ?_
              have hrv_16 := (va_recv hK hP (ci := 3) (q0 := 13 + 11 * 4) rfl (zg_L _ _ _ _ _ _ _ _ _ _ (show (4 : Nat) < 5 by decide) _))
              obtain ⟨u_17, hu_17, hF⟩ := zbd hF
              refine zcall_i (va_runV (As := [.int x2_2]) (rest := [.int (0 : Int32)]) ⟨hx, hb, hml, hown, hts⟩ (qX4_soldBy l D E KL kc on rw rd ft_3 tr la mo 4 (show (4 : Nat) < 5 by decide) T_4 N _ x2_2 _ hu_17) (cwV 1 hts (zgV k3_141 k2_232 k2_233 k0_6 k2_234) rfl rfl rfl (by decide +kernel) ⟨Nat.le_of_ble_eq_true rfl, Nat.le_of_ble_eq_true rfl⟩) (zpv hE hS hA hK hP hD hrv_16) rfl rfl hl.1 rfl (lv_room (Nat.le_of_ble_eq_true rfl)) dX2_hasSoldJustSo_50 ⟨Nat.zero_le _, Nat.zero_le _⟩) hD hS hA (fun H locs hP hD hS => ?_)
              refine lv_iconst (v := 1) hx hb dX2_hasSoldJustSo_53 (by decide) ?_
              refine lv_icmp_ne (tgt := 61) hx hb dX2_hasSoldJustSo_54 (by decide) (fun c_18 => ?_) (fun c_18 => ?_)
              · have hF := zif c_18 hF
                refine lv_iconst (v := 0) hx hb dX2_hasSoldJustSo_61 (by decide) ?_
                refine lv_icmp_eq (tgt := 67) hx hb dX2_hasSoldJustSo_62 (by decide) (fun c_19 => ?_) (fun c_19 => ?_)
                · refine lv_iinc (v := x2_2 + (1 : Int32)) (lv' := [(2, .int (x2_2 + (1 : Int32))), (3, .int (0 : Int32)), (0, .ref (E.1 7)), (1, .int x1_1)]) hx hb dX2_hasSoldJustSo_67 hl (k := 3) rfl rfl (by decide) rfl (fun ls hl => ?_)
                  refine lv_goto (tgt := 2) hx hb dX2_hasSoldJustSo_70 (by decide) ?_
                  exact ih (x2_2 + (1 : Int32)) _ hF kx_1_0 kx_1_1 _ _ _ hP hD hS (lv_sub hl [2, 3, 0] rfl)
                · exact absurd (by decide) c_19
              · have hF := zit c_18 hF
                refine lv_iconst (v := 1) hx hb dX2_hasSoldJustSo_57 (by decide) ?_
                refine lv_goto (tgt := 62) hx hb dX2_hasSoldJustSo_58 (by decide) ?_
                refine lv_icmp_eq (tgt := 67) hx hb dX2_hasSoldJustSo_62 (by decide) (fun c_20 => ?_) (fun c_20 => ?_)
                · exact absurd c_20 (by decide)
                · exact kx_1_1 (Option.some.inj hF) _ _ _ hP hD hS (lv_sub hl [] rfl)
            · have hF := zif c_15 hF
              refine lv_iconst (v := 1) hx hb dX2_hasSoldJustSo_38 (by decide) ?_
              refine lv_goto (tgt := 43) hx hb dX2_hasSoldJustSo_39 (by decide) ?_
              refine lv_istore_n (lv' := [(3, .int (1 : Int32)), (0, .ref (E.1 7)), (1, .int x1_1), (2, .int x2_2)]) hx hb dX2_hasSoldJustSo_43 rfl hl (by decide) rfl (fun ls hl => ?_)
              refine lv_iload_n hx hb dX2_hasSoldJustSo_44 rfl (lv_at hl 0 rfl) ?_
              refine lv_aload_n hx hb dX2_hasSoldJustSo_45 rfl (lv_at hl 1 rfl) ?_
              refine va_get (D := D) (ci := 2) (v := .ref (E.1 (13 + 11 * 4))) (C := RX2) (T := TX2) (N := 7) hx hb hts (zi iX2) hown hK hP 7 (zg_ft _ _ _ _ _ _ _ _ _ _) rfl 3 (by decide) (zh hts k0_181) (fun _ h9 => h9) rfl dX2_hasSoldJustSo_46 ?_
              refine lv_iload_n hx hb dX2_hasSoldJustSo_49 rfl (lv_at hl 3 rfl) ?_
              have hrv_21 := (va_recv hK hP (ci := 3) (q0 := 13 + 11 * 4) rfl (zg_L _ _ _ _ _ _ _ _ _ _ (show (4 : Nat) < 5 by decide) _))
              obtain ⟨u_22, hu_22, hF⟩ := zbd hF
              refine zcall_i (va_runV (As := [.int x2_2]) (rest := [.int (1 : Int32)]) ⟨hx, hb, hml, hown, hts⟩ (qX4_soldBy l D E KL kc on rw rd ft_3 tr la mo 4 (show (4 : Nat) < 5 by decide) T_4 N _ x2_2 _ hu_22) (cwV 1 hts (zgV k3_141 k2_232 k2_233 k0_6 k2_234) rfl rfl rfl (by decide +kernel) ⟨Nat.le_of_ble_eq_true rfl, Nat.le_of_ble_eq_true rfl⟩) (zpv hE hS hA hK hP hD hrv_21) rfl rfl hl.1 rfl (lv_room (Nat.le_of_ble_eq_true rfl)) dX2_hasSoldJustSo_50 ⟨Nat.zero_le _, Nat.zero_le _⟩) hD hS hA (fun H locs hP hD hS => ?_)
              refine lv_iconst (v := 1) hx hb dX2_hasSoldJustSo_53 (by decide) ?_
              refine lv_icmp_ne (tgt := 61) hx hb dX2_hasSoldJustSo_54 (by decide) (fun c_23 => ?_) (fun c_23 => ?_)
              · have hF := zif c_23 hF
                refine lv_iconst (v := 0) hx hb dX2_hasSoldJustSo_61 (by decide) ?_
                refine lv_icmp_eq (tgt := 67) hx hb dX2_hasSoldJustSo_62 (by decide) (fun c_24 => ?_) (fun c_24 => ?_)
                · exact absurd c_24 (by decide)
                · exact kx_1_1 (Option.some.inj hF) _ _ _ hP hD hS (lv_sub hl [] rfl)
              · have hF := zit c_23 hF
                refine lv_iconst (v := 1) hx hb dX2_hasSoldJustSo_57 (by decide) ?_
                refine lv_goto (tgt := 62) hx hb dX2_hasSoldJustSo_58 (by decide) ?_
                refine lv_icmp_eq (tgt := 67) hx hb dX2_hasSoldJustSo_62 (by decide) (fun c_25 => ?_) (fun c_25 => ?_)
                · refine lv_iinc (v := x2_2 + (1 : Int32)) (lv' := [(2, .int (x2_2 + (1 : Int32))), (3, .int (1 : Int32)), (0, .ref (E.1 7)), (1, .int x1_1)]) hx hb dX2_hasSoldJustSo_67 hl (k := 3) rfl rfl (by decide) rfl (fun ls hl => ?_)
                  refine lv_goto (tgt := 2) hx hb dX2_hasSoldJustSo_70 (by decide) ?_
                  exact ih (x2_2 + (1 : Int32)) _ hF kx_1_0 kx_1_1 _ _ _ hP hD hS (lv_sub hl [2, 3, 0] rfl)
                · exact absurd (by decide) c_25
  exact lp_1 ft T x1 N (0 : Int32) _ ho_26 kx_1_0 kx_1_1 _ _ _ hP hD hS (lv_sub hl [1, 2, 0] rfl)
def fX2_valueAlone_l1 (N : Nat) (L_7 : zLS) (x1_3 : Int32) (x2_4 : Int32) : Nat → Int32 → Int32 → Option Int32
  | 0, _, _ => none
  | n + 1, x3_5, x4_6 =>
    if x4_6 < x1_3 then
      some x3_5
    else
      (fX4_valueAt N L_7 x4_6).bind fun u_10 =>
      (fX2_waitingAlone N L_7 x3_5 x2_4).bind fun u_11 =>
      fX2_valueAlone_l1 N L_7 x1_3 x2_4 n (if u_10 < u_11 then u_11 else u_10) (x4_6 + (-1 : Int32))
def fX2_valueAlone (N : Nat) (L : zLS) (x1 : Int32) (x2 : Int32) : Option Int32 :=
  (fX4_valueAt N L (L.1.1 1)).bind fun u_2 =>
  (fX2_valueAlone_l1 N L x1 x2 N u_2 ((L.1.1 1) - (1 : Int32))).bind (fun u_14 =>
    some u_14)
set_option maxHeartbeats 4000000 in
set_option maxRecDepth 100000 in
theorem qX2_valueAlone (l : Launch) (D : va_G) (E : zE) (KL : List Nat) (kc : Nat → zKC) (on : zNS) (rw rd ft tr : zOS) (la : Nat → zLS) (mo : zMS) (j : Nat) (hj : j < 5) (L : zLS) (N sz : Nat) (x1 : Int32) (x2 : Int32) (out : Int32) (hF : fX2_valueAlone N L x1 x2 = some out) : zCi l yX2_valueAlone zwX2_valueAlone ({ frames := 2, cells := 0, slots := 0, locals := 47 }) [.ref (E.1 (13 + 11 * j)), .int x1, .int x2] D E sz (zW E KL kc on rw rd ft tr (va_up la j L) mo) (zW E KL kc on rw rd ft tr (va_up la j L) mo) out 0 0 := by
  refine zent_i (cc := cX2_valueAlone) (nL := 5) (by decide) rfl (Nat.le_of_ble_eq_true rfl) ?_
  intro p e s m args below meth c Q A hx hb hml hown hts hA hK hP hD hS hE ls hl hend
  have hown : s.vm.findClass RX2 = some m.cls := hown
  have hl : lv_has ls 5 [(0, .ref (E.1 (13 + 11 * j))), (1, .int x1), (2, .int x2)] := hl
  rw [fX2_valueAlone] at hF
  refine lv_aload_n hx hb dX2_valueAlone_0 rfl (lv_at hl 0 rfl) ?_
  refine lv_aload_n hx hb dX2_valueAlone_1 rfl (lv_at hl 0 rfl) ?_
  refine va_get (D := D) (ci := 3) (v := .int (L.1.1 1)) (C := RX4) (T := TX4) (N := 19) hx hb hts (zi iX4) hown hK hP (13 + 11 * j) (zg_L _ _ _ _ _ _ _ _ _ _ hj _) rfl 1 (by decide) (zh hts k0_102) (fun _ h9 => h9) rfl dX2_valueAlone_2 ?_
  have hrv_1 := (va_recv hK hP (ci := 3) (q0 := 13 + 11 * j) rfl (zg_L _ _ _ _ _ _ _ _ _ _ hj _))
  obtain ⟨u_2, hu_2, hF⟩ := zbd hF
  refine zcall_i (va_runV (As := [.int (L.1.1 1)]) (rest := []) ⟨hx, hb, hml, hown, hts⟩ (qX4_valueAt l D E KL kc on rw rd ft tr la mo j hj L N _ (L.1.1 1) _ hu_2) (cwV 1 hts (zgV k3_18 k2_106 k2_107 k0_6 k2_108) rfl rfl rfl (by decide +kernel) ⟨Nat.le_of_ble_eq_true rfl, Nat.le_of_ble_eq_true rfl⟩) (zpv hE hS hA hK hP hD hrv_1) rfl rfl hl.1 rfl (lv_room (Nat.le_of_ble_eq_true rfl)) dX2_valueAlone_5 ⟨Nat.zero_le _, Nat.zero_le _⟩) hD hS hA (fun H locs hP hD hS => ?_)
  refine lv_istore_n (lv' := [(3, .int u_2), (0, .ref (E.1 (13 + 11 * j))), (1, .int x1), (2, .int x2)]) hx hb dX2_valueAlone_8 rfl hl (by decide) rfl (fun ls hl => ?_)
  refine lv_aload_n hx hb dX2_valueAlone_9 rfl (lv_at hl 1 rfl) ?_
  refine va_get (D := D) (ci := 3) (v := .int (L.1.1 1)) (C := RX4) (T := TX4) (N := 19) hx hb hts (zi iX4) hown hK hP (13 + 11 * j) (zg_L _ _ _ _ _ _ _ _ _ _ hj _) rfl 1 (by decide) (zh hts k0_102) (fun _ h9 => h9) rfl dX2_valueAlone_10 ?_
  refine lv_iconst (v := 1) hx hb dX2_valueAlone_13 (by decide) ?_
  refine lv_isub hx hb dX2_valueAlone_14 ?_
  refine lv_istore (lv' := [(4, .int ((L.1.1 1) - (1 : Int32))), (3, .int u_2), (0, .ref (E.1 (13 + 11 * j))), (1, .int x1), (2, .int x2)]) hx hb dX2_valueAlone_15 hl (by decide) rfl (fun ls hl => ?_)
  obtain ⟨o_12, ho_12, hF⟩ := zbd hF
  have kx_1_0 : ∀ (x3_13 : Int32), x3_13 = o_12 → ∀ (H : Heap) (locs : List Loc) (ls : Array Slot), va_P D vwCl (zW E KL kc on rw rd ft tr (va_up la j L) mo) H → va_D A (zW E KL kc on rw rd ft tr (va_up la j L) mo) → va_S A s.heap H locs → lv_has ls 5 [(3, .int x3_13)] → W p l e ({ frames := 2, cells := 0, slots := 0, locals := 47 } : Room) s m args below meth c H locs 0 0 Q (F0 m 45 ls []) := by
    intro x3_13 ho H locs ls hP hD hS hl
    subst ho
    refine lv_iload_n hx hb dX2_valueAlone_45 rfl (lv_at hl 0 rfl) ?_
    obtain rfl := Option.some.inj hF
    exact hend _ _ _ _ hP hD hS dX2_valueAlone_46
  have lp_1 : ∀ (L_7 : zLS) (x1_3 : Int32) (x2_4 : Int32) (n : Nat) (x3_5 : Int32) (x4_6 : Int32) (o : Int32), fX2_valueAlone_l1 N L_7 x1_3 x2_4 n x3_5 x4_6 = some o → (∀ (x3_13 : Int32), x3_13 = o → ∀ (H : Heap) (locs : List Loc) (ls : Array Slot), va_P D vwCl (zW E KL kc on rw rd ft tr (va_up la j L_7) mo) H → va_D A (zW E KL kc on rw rd ft tr (va_up la j L_7) mo) → va_S A s.heap H locs → lv_has ls 5 [(3, .int x3_13)] → W p l e ({ frames := 2, cells := 0, slots := 0, locals := 47 } : Room) s m args below meth c H locs 0 0 Q (F0 m 45 ls [])) → ∀ (H : Heap) (locs : List Loc) (ls : Array Slot), va_P D vwCl (zW E KL kc on rw rd ft tr (va_up la j L_7) mo) H → va_D A (zW E KL kc on rw rd ft tr (va_up la j L_7) mo) → va_S A s.heap H locs → lv_has ls 5 [(0, .ref (E.1 (13 + 11 * j))), (1, .int x1_3), (2, .int x2_4), (3, .int x3_5), (4, .int x4_6)] → W p l e ({ frames := 2, cells := 0, slots := 0, locals := 47 } : Room) s m args below meth c H locs 0 0 Q (F0 m 17 ls []) := by
    intro L_7 x1_3 x2_4 n
    induction n with
    | zero =>
      intro x3_5 x4_6 o hF
      exact znone hF
    | succ n ih =>
      intro x3_5 x4_6 o hF kx_1_0 H locs ls hP hD hS hl
      rw [fX2_valueAlone_l1] at hF
      refine lv_iload hx hb dX2_valueAlone_17 (lv_at hl 4 rfl) ?_
      refine lv_iload_n hx hb dX2_valueAlone_19 rfl (lv_at hl 1 rfl) ?_
      refine lv_icmp_lt (tgt := 45) hx hb dX2_valueAlone_20 (by decide) (fun c_8 => ?_) (fun c_8 => ?_)
      · have hF := zit c_8 hF
        exact kx_1_0 x3_5 (Option.some.inj hF) _ _ _ hP hD hS (lv_sub hl [3] rfl)
      · have hF := zif c_8 hF
        refine lv_aload_n hx hb dX2_valueAlone_23 rfl (lv_at hl 0 rfl) ?_
        refine lv_iload hx hb dX2_valueAlone_24 (lv_at hl 4 rfl) ?_
        have hrv_9 := (va_recv hK hP (ci := 3) (q0 := 13 + 11 * j) rfl (zg_L _ _ _ _ _ _ _ _ _ _ hj _))
        obtain ⟨u_10, hu_10, hF⟩ := zbd hF
        refine zcall_i (va_runV (As := [.int x4_6]) (rest := []) ⟨hx, hb, hml, hown, hts⟩ (qX4_valueAt l D E KL kc on rw rd ft tr la mo j hj L_7 N _ x4_6 _ hu_10) (cwV 1 hts (zgV k3_18 k2_106 k2_107 k0_6 k2_108) rfl rfl rfl (by decide +kernel) ⟨Nat.le_of_ble_eq_true rfl, Nat.le_of_ble_eq_true rfl⟩) (zpv hE hS hA hK hP hD hrv_9) rfl rfl hl.1 rfl (lv_room (Nat.le_of_ble_eq_true rfl)) dX2_valueAlone_26 ⟨Nat.zero_le _, Nat.zero_le _⟩) hD hS hA (fun H locs hP hD hS => ?_)
        refine lv_aload_n hx hb dX2_valueAlone_29 rfl (lv_at hl 0 rfl) ?_
        refine lv_iload_n hx hb dX2_valueAlone_30 rfl (lv_at hl 3 rfl) ?_
        refine lv_iload_n hx hb dX2_valueAlone_31 rfl (lv_at hl 2 rfl) ?_
        obtain ⟨u_11, hu_11, hF⟩ := zbd hF
        refine zcall_i (va_runS (As := [.ref (E.1 (13 + 11 * j)), .int x3_5, .int x2_4]) (rest := [.int u_10]) ⟨hx, hb, hml, hown, hts⟩ (qX2_waitingAlone l D E KL kc on rw rd ft tr la mo j hj L_7 N _ x3_5 x2_4 _ hu_11) (va_cwS 3 hts (zgS k3_19 k3_20 k0_5 k3_21) rfl rfl rfl (by decide +kernel) ⟨Nat.le_of_ble_eq_true rfl, Nat.le_of_ble_eq_true rfl⟩) (zps hE hS hA hK hP hD) rfl rfl hl.1 rfl (lv_room (Nat.le_of_ble_eq_true rfl)) dX2_valueAlone_32 ⟨Nat.zero_le _, Nat.zero_le _⟩) hD hS hA (fun H locs hP hD hS => ?_)
        refine va_mmax hx hb (hml.trans hl.1.symm) (own := RX2) hown (zh hts k3_25) (zh hts k2_110) (zh hts k0_10) (zh hts k2_111) (Nat.le_of_ble_eq_true rfl) (Nat.le_of_ble_eq_true rfl) (Nat.zero_le _) (Nat.zero_le _) dX2_valueAlone_35 ?_
        refine lv_istore_n (lv' := [(3, .int (if u_10 < u_11 then u_11 else u_10)), (0, .ref (E.1 (13 + 11 * j))), (1, .int x1_3), (2, .int x2_4), (4, .int x4_6)]) hx hb dX2_valueAlone_38 rfl hl (by decide) rfl (fun ls hl => ?_)
        refine lv_iinc (v := x4_6 + (-1 : Int32)) (lv' := [(4, .int (x4_6 + (-1 : Int32))), (3, .int (if u_10 < u_11 then u_11 else u_10)), (0, .ref (E.1 (13 + 11 * j))), (1, .int x1_3), (2, .int x2_4)]) hx hb dX2_valueAlone_39 hl (k := 4) rfl rfl (by decide) rfl (fun ls hl => ?_)
        refine lv_goto (tgt := 17) hx hb dX2_valueAlone_42 (by decide) ?_
        exact ih (if u_10 < u_11 then u_11 else u_10) (x4_6 + (-1 : Int32)) _ hF kx_1_0 _ _ _ hP hD hS (lv_sub hl [2, 3, 4, 1, 0] rfl)
  exact lp_1 L x1 x2 N u_2 ((L.1.1 1) - (1 : Int32)) _ ho_12 kx_1_0 _ _ _ hP hD hS (lv_sub hl [2, 3, 4, 1, 0] rfl)
def fX2_whenAlone_l1 (N : Nat) (L_8 : zLS) (x1_3 : Int32) (x2_4 : Int32) : Nat → Int32 → Int32 → Int32 → Option Int32
  | 0, _, _, _ => none
  | n + 1, x3_5, x4_6, x5_7 =>
    if x5_7 < x1_3 then
      some x3_5
    else
      (fX4_valueAt N L_8 x5_7).bind fun u_11 =>
      (fX2_waitingAlone N L_8 x4_6 x2_4).bind fun u_12 =>
      if u_11 < u_12 then
        fX2_whenAlone_l1 N L_8 x1_3 x2_4 n x3_5 (if u_11 < u_12 then u_12 else u_11) (x5_7 + (-1 : Int32))
      else
        fX2_whenAlone_l1 N L_8 x1_3 x2_4 n x5_7 (if u_11 < u_12 then u_12 else u_11) (x5_7 + (-1 : Int32))
def fX2_whenAlone (N : Nat) (L : zLS) (x1 : Int32) (x2 : Int32) : Option Int32 :=
  (fX4_valueAt N L (L.1.1 1)).bind fun u_2 =>
  (fX2_whenAlone_l1 N L x1 x2 N (L.1.1 1) u_2 ((L.1.1 1) - (1 : Int32))).bind (fun u_16 =>
    some u_16)
set_option maxHeartbeats 4000000 in
set_option maxRecDepth 100000 in
theorem qX2_whenAlone (l : Launch) (D : va_G) (E : zE) (KL : List Nat) (kc : Nat → zKC) (on : zNS) (rw rd ft tr : zOS) (la : Nat → zLS) (mo : zMS) (j : Nat) (hj : j < 5) (L : zLS) (N sz : Nat) (x1 : Int32) (x2 : Int32) (out : Int32) (hF : fX2_whenAlone N L x1 x2 = some out) : zCi l yX2_whenAlone zwX2_whenAlone ({ frames := 2, cells := 0, slots := 0, locals := 47 }) [.ref (E.1 (13 + 11 * j)), .int x1, .int x2] D E sz (zW E KL kc on rw rd ft tr (va_up la j L) mo) (zW E KL kc on rw rd ft tr (va_up la j L) mo) out 0 0 := by
  refine zent_i (cc := cX2_whenAlone) (nL := 8) (by decide) rfl (Nat.le_of_ble_eq_true rfl) ?_
  intro p e s m args below meth c Q A hx hb hml hown hts hA hK hP hD hS hE ls hl hend
  have hown : s.vm.findClass RX2 = some m.cls := hown
  have hl : lv_has ls 8 [(0, .ref (E.1 (13 + 11 * j))), (1, .int x1), (2, .int x2)] := hl
  rw [fX2_whenAlone] at hF
  refine lv_aload_n hx hb dX2_whenAlone_0 rfl (lv_at hl 0 rfl) ?_
  refine va_get (D := D) (ci := 3) (v := .int (L.1.1 1)) (C := RX4) (T := TX4) (N := 19) hx hb hts (zi iX4) hown hK hP (13 + 11 * j) (zg_L _ _ _ _ _ _ _ _ _ _ hj _) rfl 1 (by decide) (zh hts k0_102) (fun _ h9 => h9) rfl dX2_whenAlone_1 ?_
  refine lv_istore_n (lv' := [(3, .int (L.1.1 1)), (0, .ref (E.1 (13 + 11 * j))), (1, .int x1), (2, .int x2)]) hx hb dX2_whenAlone_4 rfl hl (by decide) rfl (fun ls hl => ?_)
  refine lv_aload_n hx hb dX2_whenAlone_5 rfl (lv_at hl 1 rfl) ?_
  refine lv_aload_n hx hb dX2_whenAlone_6 rfl (lv_at hl 1 rfl) ?_
  refine va_get (D := D) (ci := 3) (v := .int (L.1.1 1)) (C := RX4) (T := TX4) (N := 19) hx hb hts (zi iX4) hown hK hP (13 + 11 * j) (zg_L _ _ _ _ _ _ _ _ _ _ hj _) rfl 1 (by decide) (zh hts k0_102) (fun _ h9 => h9) rfl dX2_whenAlone_7 ?_
  have hrv_1 := (va_recv hK hP (ci := 3) (q0 := 13 + 11 * j) rfl (zg_L _ _ _ _ _ _ _ _ _ _ hj _))
  obtain ⟨u_2, hu_2, hF⟩ := zbd hF
  refine zcall_i (va_runV (As := [.int (L.1.1 1)]) (rest := []) ⟨hx, hb, hml, hown, hts⟩ (qX4_valueAt l D E KL kc on rw rd ft tr la mo j hj L N _ (L.1.1 1) _ hu_2) (cwV 1 hts (zgV k3_18 k2_106 k2_107 k0_6 k2_108) rfl rfl rfl (by decide +kernel) ⟨Nat.le_of_ble_eq_true rfl, Nat.le_of_ble_eq_true rfl⟩) (zpv hE hS hA hK hP hD hrv_1) rfl rfl hl.1 rfl (lv_room (Nat.le_of_ble_eq_true rfl)) dX2_whenAlone_10 ⟨Nat.zero_le _, Nat.zero_le _⟩) hD hS hA (fun H locs hP hD hS => ?_)
  refine lv_istore (lv' := [(4, .int u_2), (3, .int (L.1.1 1)), (0, .ref (E.1 (13 + 11 * j))), (1, .int x1), (2, .int x2)]) hx hb dX2_whenAlone_13 hl (by decide) rfl (fun ls hl => ?_)
  refine lv_aload_n hx hb dX2_whenAlone_15 rfl (lv_at hl 2 rfl) ?_
  refine va_get (D := D) (ci := 3) (v := .int (L.1.1 1)) (C := RX4) (T := TX4) (N := 19) hx hb hts (zi iX4) hown hK hP (13 + 11 * j) (zg_L _ _ _ _ _ _ _ _ _ _ hj _) rfl 1 (by decide) (zh hts k0_102) (fun _ h9 => h9) rfl dX2_whenAlone_16 ?_
  refine lv_iconst (v := 1) hx hb dX2_whenAlone_19 (by decide) ?_
  refine lv_isub hx hb dX2_whenAlone_20 ?_
  refine lv_istore (lv' := [(5, .int ((L.1.1 1) - (1 : Int32))), (4, .int u_2), (3, .int (L.1.1 1)), (0, .ref (E.1 (13 + 11 * j))), (1, .int x1), (2, .int x2)]) hx hb dX2_whenAlone_21 hl (by decide) rfl (fun ls hl => ?_)
  obtain ⟨o_14, ho_14, hF⟩ := zbd hF
  have kx_1_0 : ∀ (x3_15 : Int32), x3_15 = o_14 → ∀ (H : Heap) (locs : List Loc) (ls : Array Slot), va_P D vwCl (zW E KL kc on rw rd ft tr (va_up la j L) mo) H → va_D A (zW E KL kc on rw rd ft tr (va_up la j L) mo) → va_S A s.heap H locs → lv_has ls 8 [(3, .int x3_15)] → W p l e ({ frames := 2, cells := 0, slots := 0, locals := 47 } : Room) s m args below meth c H locs 0 0 Q (F0 m 71 ls []) := by
    intro x3_15 ho H locs ls hP hD hS hl
    subst ho
    refine lv_iload_n hx hb dX2_whenAlone_71 rfl (lv_at hl 0 rfl) ?_
    obtain rfl := Option.some.inj hF
    exact hend _ _ _ _ hP hD hS dX2_whenAlone_72
  have lp_1 : ∀ (L_8 : zLS) (x1_3 : Int32) (x2_4 : Int32) (n : Nat) (x3_5 : Int32) (x4_6 : Int32) (x5_7 : Int32) (o : Int32), fX2_whenAlone_l1 N L_8 x1_3 x2_4 n x3_5 x4_6 x5_7 = some o → (∀ (x3_15 : Int32), x3_15 = o → ∀ (H : Heap) (locs : List Loc) (ls : Array Slot), va_P D vwCl (zW E KL kc on rw rd ft tr (va_up la j L_8) mo) H → va_D A (zW E KL kc on rw rd ft tr (va_up la j L_8) mo) → va_S A s.heap H locs → lv_has ls 8 [(3, .int x3_15)] → W p l e ({ frames := 2, cells := 0, slots := 0, locals := 47 } : Room) s m args below meth c H locs 0 0 Q (F0 m 71 ls [])) → ∀ (H : Heap) (locs : List Loc) (ls : Array Slot), va_P D vwCl (zW E KL kc on rw rd ft tr (va_up la j L_8) mo) H → va_D A (zW E KL kc on rw rd ft tr (va_up la j L_8) mo) → va_S A s.heap H locs → lv_has ls 8 [(0, .ref (E.1 (13 + 11 * j))), (1, .int x1_3), (2, .int x2_4), (3, .int x3_5), (4, .int x4_6), (5, .int x5_7)] → W p l e ({ frames := 2, cells := 0, slots := 0, locals := 47 } : Room) s m args below meth c H locs 0 0 Q (F0 m 23 ls []) := by
    intro L_8 x1_3 x2_4 n
    induction n with
    | zero =>
      intro x3_5 x4_6 x5_7 o hF
      exact znone hF
    | succ n ih =>
      intro x3_5 x4_6 x5_7 o hF kx_1_0 H locs ls hP hD hS hl
      rw [fX2_whenAlone_l1] at hF
      refine lv_iload hx hb dX2_whenAlone_23 (lv_at hl 5 rfl) ?_
      refine lv_iload_n hx hb dX2_whenAlone_25 rfl (lv_at hl 1 rfl) ?_
      refine lv_icmp_lt (tgt := 71) hx hb dX2_whenAlone_26 (by decide) (fun c_9 => ?_) (fun c_9 => ?_)
      · have hF := zit c_9 hF
        exact kx_1_0 x3_5 (Option.some.inj hF) _ _ _ hP hD hS (lv_sub hl [3] rfl)
      · have hF := zif c_9 hF
        refine lv_aload_n hx hb dX2_whenAlone_29 rfl (lv_at hl 0 rfl) ?_
        refine lv_iload hx hb dX2_whenAlone_30 (lv_at hl 5 rfl) ?_
        have hrv_10 := (va_recv hK hP (ci := 3) (q0 := 13 + 11 * j) rfl (zg_L _ _ _ _ _ _ _ _ _ _ hj _))
        obtain ⟨u_11, hu_11, hF⟩ := zbd hF
        refine zcall_i (va_runV (As := [.int x5_7]) (rest := []) ⟨hx, hb, hml, hown, hts⟩ (qX4_valueAt l D E KL kc on rw rd ft tr la mo j hj L_8 N _ x5_7 _ hu_11) (cwV 1 hts (zgV k3_18 k2_106 k2_107 k0_6 k2_108) rfl rfl rfl (by decide +kernel) ⟨Nat.le_of_ble_eq_true rfl, Nat.le_of_ble_eq_true rfl⟩) (zpv hE hS hA hK hP hD hrv_10) rfl rfl hl.1 rfl (lv_room (Nat.le_of_ble_eq_true rfl)) dX2_whenAlone_32 ⟨Nat.zero_le _, Nat.zero_le _⟩) hD hS hA (fun H locs hP hD hS => ?_)
        refine lv_istore (lv' := [(6, .int u_11), (0, .ref (E.1 (13 + 11 * j))), (1, .int x1_3), (2, .int x2_4), (3, .int x3_5), (4, .int x4_6), (5, .int x5_7)]) hx hb dX2_whenAlone_35 hl (by decide) rfl (fun ls hl => ?_)
        refine lv_aload_n hx hb dX2_whenAlone_37 rfl (lv_at hl 1 rfl) ?_
        refine lv_iload hx hb dX2_whenAlone_38 (lv_at hl 5 rfl) ?_
        refine lv_iload_n hx hb dX2_whenAlone_40 rfl (lv_at hl 3 rfl) ?_
        obtain ⟨u_12, hu_12, hF⟩ := zbd hF
        refine zcall_i (va_runS (As := [.ref (E.1 (13 + 11 * j)), .int x4_6, .int x2_4]) (rest := []) ⟨hx, hb, hml, hown, hts⟩ (qX2_waitingAlone l D E KL kc on rw rd ft tr la mo j hj L_8 N _ x4_6 x2_4 _ hu_12) (va_cwS 3 hts (zgS k3_19 k3_20 k0_5 k3_21) rfl rfl rfl (by decide +kernel) ⟨Nat.le_of_ble_eq_true rfl, Nat.le_of_ble_eq_true rfl⟩) (zps hE hS hA hK hP hD) rfl rfl hl.1 rfl (lv_room (Nat.le_of_ble_eq_true rfl)) dX2_whenAlone_41 ⟨Nat.zero_le _, Nat.zero_le _⟩) hD hS hA (fun H locs hP hD hS => ?_)
        refine lv_istore (lv' := [(7, .int u_12), (6, .int u_11), (0, .ref (E.1 (13 + 11 * j))), (1, .int x1_3), (2, .int x2_4), (3, .int x3_5), (4, .int x4_6), (5, .int x5_7)]) hx hb dX2_whenAlone_44 hl (by decide) rfl (fun ls hl => ?_)
        refine lv_iload hx hb dX2_whenAlone_46 (lv_at hl 1 rfl) ?_
        refine lv_iload hx hb dX2_whenAlone_48 (lv_at hl 0 rfl) ?_
        refine lv_icmp_lt (tgt := 56) hx hb dX2_whenAlone_50 (by decide) (fun c_13 => ?_) (fun c_13 => ?_)
        · have hF := zit c_13 hF
          refine lv_iload hx hb dX2_whenAlone_56 (lv_at hl 1 rfl) ?_
          refine lv_iload hx hb dX2_whenAlone_58 (lv_at hl 0 rfl) ?_
          refine va_mmax hx hb (hml.trans hl.1.symm) (own := RX2) hown (zh hts k3_25) (zh hts k2_110) (zh hts k0_10) (zh hts k2_111) (Nat.le_of_ble_eq_true rfl) (Nat.le_of_ble_eq_true rfl) (Nat.zero_le _) (Nat.zero_le _) dX2_whenAlone_60 ?_
          refine lv_istore (lv' := [(4, .int (if u_11 < u_12 then u_12 else u_11)), (7, .int u_12), (6, .int u_11), (0, .ref (E.1 (13 + 11 * j))), (1, .int x1_3), (2, .int x2_4), (3, .int x3_5), (5, .int x5_7)]) hx hb dX2_whenAlone_63 hl (by decide) rfl (fun ls hl => ?_)
          refine lv_iinc (v := x5_7 + (-1 : Int32)) (lv' := [(5, .int (x5_7 + (-1 : Int32))), (4, .int (if u_11 < u_12 then u_12 else u_11)), (7, .int u_12), (6, .int u_11), (0, .ref (E.1 (13 + 11 * j))), (1, .int x1_3), (2, .int x2_4), (3, .int x3_5)]) hx hb dX2_whenAlone_65 hl (k := 7) rfl rfl (by decide) rfl (fun ls hl => ?_)
          refine lv_goto (tgt := 23) hx hb dX2_whenAlone_68 (by decide) ?_
          exact ih x3_5 (if u_11 < u_12 then u_12 else u_11) (x5_7 + (-1 : Int32)) _ hF kx_1_0 _ _ _ hP hD hS (lv_sub hl [4, 5, 6, 7, 1, 0] rfl)
        · have hF := zif c_13 hF
          refine lv_iload hx hb dX2_whenAlone_53 (lv_at hl 7 rfl) ?_
          refine lv_istore_n (lv' := [(3, .int x5_7), (7, .int u_12), (6, .int u_11), (0, .ref (E.1 (13 + 11 * j))), (1, .int x1_3), (2, .int x2_4), (4, .int x4_6), (5, .int x5_7)]) hx hb dX2_whenAlone_55 rfl hl (by decide) rfl (fun ls hl => ?_)
          refine lv_iload hx hb dX2_whenAlone_56 (lv_at hl 2 rfl) ?_
          refine lv_iload hx hb dX2_whenAlone_58 (lv_at hl 1 rfl) ?_
          refine va_mmax hx hb (hml.trans hl.1.symm) (own := RX2) hown (zh hts k3_25) (zh hts k2_110) (zh hts k0_10) (zh hts k2_111) (Nat.le_of_ble_eq_true rfl) (Nat.le_of_ble_eq_true rfl) (Nat.zero_le _) (Nat.zero_le _) dX2_whenAlone_60 ?_
          refine lv_istore (lv' := [(4, .int (if u_11 < u_12 then u_12 else u_11)), (3, .int x5_7), (7, .int u_12), (6, .int u_11), (0, .ref (E.1 (13 + 11 * j))), (1, .int x1_3), (2, .int x2_4), (5, .int x5_7)]) hx hb dX2_whenAlone_63 hl (by decide) rfl (fun ls hl => ?_)
          refine lv_iinc (v := x5_7 + (-1 : Int32)) (lv' := [(5, .int (x5_7 + (-1 : Int32))), (4, .int (if u_11 < u_12 then u_12 else u_11)), (3, .int x5_7), (7, .int u_12), (6, .int u_11), (0, .ref (E.1 (13 + 11 * j))), (1, .int x1_3), (2, .int x2_4)]) hx hb dX2_whenAlone_65 hl (k := 7) rfl rfl (by decide) rfl (fun ls hl => ?_)
          refine lv_goto (tgt := 23) hx hb dX2_whenAlone_68 (by decide) ?_
          exact ih x5_7 (if u_11 < u_12 then u_12 else u_11) (x5_7 + (-1 : Int32)) _ hF kx_1_0 _ _ _ hP hD hS (lv_sub hl [5, 6, 7, 2, 1, 0] rfl)
  exact lp_1 L x1 x2 N (L.1.1 1) u_2 ((L.1.1 1) - (1 : Int32)) _ ho_14 kx_1_0 _ _ _ hP hD hS (lv_sub hl [3, 4, 5, 2, 1, 0] rfl)
def fX2_bestCopies_l1 (N : Nat) (L_6 : zLS) (x1_2 : Int32) : Nat → Int32 → Int32 → Int32 → Option Int32
  | 0, _, _, _ => none
  | n + 1, x2_3, x3_4, x4_5 =>
    if (9 : Int32) < x4_5 then
      some x2_3
    else
      (fX2_valueAlone N L_6 x1_2 x4_5).bind fun u_8 =>
      if u_8 ≤ x3_4 then
        fX2_bestCopies_l1 N L_6 x1_2 n x2_3 x3_4 (x4_5 + (1 : Int32))
      else
        fX2_bestCopies_l1 N L_6 x1_2 n x4_5 u_8 (x4_5 + (1 : Int32))
def fX2_bestCopies (N : Nat) (L : zLS) (x1 : Int32) : Option Int32 :=
  (fX2_valueAlone N L x1 (1 : Int32)).bind fun u_1 =>
  (fX2_bestCopies_l1 N L x1 N (1 : Int32) u_1 (2 : Int32)).bind (fun u_12 =>
    some u_12)
set_option maxHeartbeats 4000000 in
set_option maxRecDepth 100000 in
theorem qX2_bestCopies (l : Launch) (D : va_G) (E : zE) (KL : List Nat) (kc : Nat → zKC) (on : zNS) (rw rd ft tr : zOS) (la : Nat → zLS) (mo : zMS) (j : Nat) (hj : j < 5) (L : zLS) (N sz : Nat) (x1 : Int32) (out : Int32) (hF : fX2_bestCopies N L x1 = some out) : zCi l yX2_bestCopies zwX2_bestCopies ({ frames := 3, cells := 0, slots := 0, locals := 71 }) [.ref (E.1 (13 + 11 * j)), .int x1] D E sz (zW E KL kc on rw rd ft tr (va_up la j L) mo) (zW E KL kc on rw rd ft tr (va_up la j L) mo) out 0 0 := by
  refine zent_i (cc := cX2_bestCopies) (nL := 6) (by decide) rfl (Nat.le_of_ble_eq_true rfl) ?_
  intro p e s m args below meth c Q A hx hb hml hown hts hA hK hP hD hS hE ls hl hend
  have hown : s.vm.findClass RX2 = some m.cls := hown
  have hl : lv_has ls 6 [(0, .ref (E.1 (13 + 11 * j))), (1, .int x1)] := hl
  rw [fX2_bestCopies] at hF
  refine lv_iconst (v := 1) hx hb dX2_bestCopies_0 (by decide) ?_
  refine lv_istore_n (lv' := [(2, .int (1 : Int32)), (0, .ref (E.1 (13 + 11 * j))), (1, .int x1)]) hx hb dX2_bestCopies_1 rfl hl (by decide) rfl (fun ls hl => ?_)
  refine lv_aload_n hx hb dX2_bestCopies_2 rfl (lv_at hl 1 rfl) ?_
  refine lv_iload_n hx hb dX2_bestCopies_3 rfl (lv_at hl 2 rfl) ?_
  refine lv_iconst (v := 1) hx hb dX2_bestCopies_4 (by decide) ?_
  obtain ⟨u_1, hu_1, hF⟩ := zbd hF
  refine zcall_i (va_runS (As := [.ref (E.1 (13 + 11 * j)), .int x1, .int (1 : Int32)]) (rest := []) ⟨hx, hb, hml, hown, hts⟩ (qX2_valueAlone l D E KL kc on rw rd ft tr la mo j hj L N _ x1 (1 : Int32) _ hu_1) (va_cwS 3 hts (zgS k3_36 k3_16 k0_5 k3_17) rfl rfl rfl (by decide +kernel) ⟨Nat.le_of_ble_eq_true rfl, Nat.le_of_ble_eq_true rfl⟩) (zps hE hS hA hK hP hD) rfl rfl hl.1 rfl (lv_room (Nat.le_of_ble_eq_true rfl)) dX2_bestCopies_5 ⟨Nat.zero_le _, Nat.zero_le _⟩) hD hS hA (fun H locs hP hD hS => ?_)
  refine lv_istore_n (lv' := [(3, .int u_1), (2, .int (1 : Int32)), (0, .ref (E.1 (13 + 11 * j))), (1, .int x1)]) hx hb dX2_bestCopies_8 rfl hl (by decide) rfl (fun ls hl => ?_)
  refine lv_iconst (v := 2) hx hb dX2_bestCopies_9 (by decide) ?_
  refine lv_istore (lv' := [(4, .int (2 : Int32)), (3, .int u_1), (2, .int (1 : Int32)), (0, .ref (E.1 (13 + 11 * j))), (1, .int x1)]) hx hb dX2_bestCopies_10 hl (by decide) rfl (fun ls hl => ?_)
  obtain ⟨o_10, ho_10, hF⟩ := zbd hF
  have kx_1_0 : ∀ (x2_11 : Int32), x2_11 = o_10 → ∀ (H : Heap) (locs : List Loc) (ls : Array Slot), va_P D vwCl (zW E KL kc on rw rd ft tr (va_up la j L) mo) H → va_D A (zW E KL kc on rw rd ft tr (va_up la j L) mo) → va_S A s.heap H locs → lv_has ls 6 [(2, .int x2_11)] → W p l e ({ frames := 3, cells := 0, slots := 0, locals := 71 } : Room) s m args below meth c H locs 0 0 Q (F0 m 46 ls []) := by
    intro x2_11 ho H locs ls hP hD hS hl
    subst ho
    refine lv_iload_n hx hb dX2_bestCopies_46 rfl (lv_at hl 0 rfl) ?_
    obtain rfl := Option.some.inj hF
    exact hend _ _ _ _ hP hD hS dX2_bestCopies_47
  have lp_1 : ∀ (L_6 : zLS) (x1_2 : Int32) (n : Nat) (x2_3 : Int32) (x3_4 : Int32) (x4_5 : Int32) (o : Int32), fX2_bestCopies_l1 N L_6 x1_2 n x2_3 x3_4 x4_5 = some o → (∀ (x2_11 : Int32), x2_11 = o → ∀ (H : Heap) (locs : List Loc) (ls : Array Slot), va_P D vwCl (zW E KL kc on rw rd ft tr (va_up la j L_6) mo) H → va_D A (zW E KL kc on rw rd ft tr (va_up la j L_6) mo) → va_S A s.heap H locs → lv_has ls 6 [(2, .int x2_11)] → W p l e ({ frames := 3, cells := 0, slots := 0, locals := 71 } : Room) s m args below meth c H locs 0 0 Q (F0 m 46 ls [])) → ∀ (H : Heap) (locs : List Loc) (ls : Array Slot), va_P D vwCl (zW E KL kc on rw rd ft tr (va_up la j L_6) mo) H → va_D A (zW E KL kc on rw rd ft tr (va_up la j L_6) mo) → va_S A s.heap H locs → lv_has ls 6 [(0, .ref (E.1 (13 + 11 * j))), (1, .int x1_2), (2, .int x2_3), (3, .int x3_4), (4, .int x4_5)] → W p l e ({ frames := 3, cells := 0, slots := 0, locals := 71 } : Room) s m args below meth c H locs 0 0 Q (F0 m 12 ls []) := by
    intro L_6 x1_2 n
    induction n with
    | zero =>
      intro x2_3 x3_4 x4_5 o hF
      exact znone hF
    | succ n ih =>
      intro x2_3 x3_4 x4_5 o hF kx_1_0 H locs ls hP hD hS hl
      rw [fX2_bestCopies_l1] at hF
      refine lv_iload hx hb dX2_bestCopies_12 (lv_at hl 4 rfl) ?_
      refine lv_bipush (v := 9) hx hb dX2_bestCopies_14 (by decide) ?_
      refine lv_icmp_gt (tgt := 46) hx hb dX2_bestCopies_16 (by decide) (fun c_7 => ?_) (fun c_7 => ?_)
      · have hF := zit c_7 hF
        exact kx_1_0 x2_3 (Option.some.inj hF) _ _ _ hP hD hS (lv_sub hl [2] rfl)
      · have hF := zif c_7 hF
        refine lv_aload_n hx hb dX2_bestCopies_19 rfl (lv_at hl 0 rfl) ?_
        refine lv_iload_n hx hb dX2_bestCopies_20 rfl (lv_at hl 1 rfl) ?_
        refine lv_iload hx hb dX2_bestCopies_21 (lv_at hl 4 rfl) ?_
        obtain ⟨u_8, hu_8, hF⟩ := zbd hF
        refine zcall_i (va_runS (As := [.ref (E.1 (13 + 11 * j)), .int x1_2, .int x4_5]) (rest := []) ⟨hx, hb, hml, hown, hts⟩ (qX2_valueAlone l D E KL kc on rw rd ft tr la mo j hj L_6 N _ x1_2 x4_5 _ hu_8) (va_cwS 3 hts (zgS k3_36 k3_16 k0_5 k3_17) rfl rfl rfl (by decide +kernel) ⟨Nat.le_of_ble_eq_true rfl, Nat.le_of_ble_eq_true rfl⟩) (zps hE hS hA hK hP hD) rfl rfl hl.1 rfl (lv_room (Nat.le_of_ble_eq_true rfl)) dX2_bestCopies_23 ⟨Nat.zero_le _, Nat.zero_le _⟩) hD hS hA (fun H locs hP hD hS => ?_)
        refine lv_istore (lv' := [(5, .int u_8), (0, .ref (E.1 (13 + 11 * j))), (1, .int x1_2), (2, .int x2_3), (3, .int x3_4), (4, .int x4_5)]) hx hb dX2_bestCopies_26 hl (by decide) rfl (fun ls hl => ?_)
        refine lv_iload hx hb dX2_bestCopies_28 (lv_at hl 0 rfl) ?_
        refine lv_iload_n hx hb dX2_bestCopies_30 rfl (lv_at hl 4 rfl) ?_
        refine lv_icmp_le (tgt := 40) hx hb dX2_bestCopies_31 (by decide) (fun c_9 => ?_) (fun c_9 => ?_)
        · have hF := zit c_9 hF
          refine lv_iinc (v := x4_5 + (1 : Int32)) (lv' := [(4, .int (x4_5 + (1 : Int32))), (5, .int u_8), (0, .ref (E.1 (13 + 11 * j))), (1, .int x1_2), (2, .int x2_3), (3, .int x3_4)]) hx hb dX2_bestCopies_40 hl (k := 5) rfl rfl (by decide) rfl (fun ls hl => ?_)
          refine lv_goto (tgt := 12) hx hb dX2_bestCopies_43 (by decide) ?_
          exact ih x2_3 x3_4 (x4_5 + (1 : Int32)) _ hF kx_1_0 _ _ _ hP hD hS (lv_sub hl [2, 3, 4, 5, 0] rfl)
        · have hF := zif c_9 hF
          refine lv_iload hx hb dX2_bestCopies_34 (lv_at hl 0 rfl) ?_
          refine lv_istore_n (lv' := [(3, .int u_8), (5, .int u_8), (0, .ref (E.1 (13 + 11 * j))), (1, .int x1_2), (2, .int x2_3), (4, .int x4_5)]) hx hb dX2_bestCopies_36 rfl hl (by decide) rfl (fun ls hl => ?_)
          refine lv_iload hx hb dX2_bestCopies_37 (lv_at hl 5 rfl) ?_
          refine lv_istore_n (lv' := [(2, .int x4_5), (3, .int u_8), (5, .int u_8), (0, .ref (E.1 (13 + 11 * j))), (1, .int x1_2), (4, .int x4_5)]) hx hb dX2_bestCopies_39 rfl hl (by decide) rfl (fun ls hl => ?_)
          refine lv_iinc (v := x4_5 + (1 : Int32)) (lv' := [(4, .int (x4_5 + (1 : Int32))), (2, .int x4_5), (3, .int u_8), (5, .int u_8), (0, .ref (E.1 (13 + 11 * j))), (1, .int x1_2)]) hx hb dX2_bestCopies_40 hl (k := 5) rfl rfl (by decide) rfl (fun ls hl => ?_)
          refine lv_goto (tgt := 12) hx hb dX2_bestCopies_43 (by decide) ?_
          exact ih x4_5 u_8 (x4_5 + (1 : Int32)) _ hF kx_1_0 _ _ _ hP hD hS (lv_sub hl [4, 5, 1, 2, 0] rfl)
  exact lp_1 L x1 N (1 : Int32) u_1 (2 : Int32) _ ho_10 kx_1_0 _ _ _ hP hD hS (lv_sub hl [3, 4, 2, 1, 0] rfl)
def fX2_ofTwo_l1 (N : Nat) (L_9 : zLS) (x1_3 : Int32) (x2_4 : Int32) (x3_5 : Int32) : Nat → Int32 → Int32 → Int32 → Option (Int32 × Int32)
  | 0, _, _, _ => none
  | n + 1, x4_6, x5_7, x6_8 =>
    if x6_8 < x1_3 then
      some (x4_6, x5_7)
    else
      (fX4_valueAt N L_9 x6_8).bind fun u_12 =>
      if 0 < (u_12 - ((x5_7 * ((1000 : Int32) - (L_9.1.1 3))) / (1000 : Int32))) then
        if 0 < (((x2_4 * u_12) / (100 : Int32)) - (u_12 / (2 : Int32))) then
          if ((u_12 - ((x5_7 * ((1000 : Int32) - (L_9.1.1 3))) / (1000 : Int32))) + (((x2_4 * u_12) / (100 : Int32)) - (u_12 / (2 : Int32)))) = 0 then none else
          fX2_ofTwo_l1 N L_9 x1_3 x2_4 x3_5 n (((1000 : Int32) * (u_12 - ((x5_7 * ((1000 : Int32) - (L_9.1.1 3))) / (1000 : Int32)))) / ((u_12 - ((x5_7 * ((1000 : Int32) - (L_9.1.1 3))) / (1000 : Int32))) + (((x2_4 * u_12) / (100 : Int32)) - (u_12 / (2 : Int32))))) ((((((1000 : Int32) * (u_12 - ((x5_7 * ((1000 : Int32) - (L_9.1.1 3))) / (1000 : Int32)))) / ((u_12 - ((x5_7 * ((1000 : Int32) - (L_9.1.1 3))) / (1000 : Int32))) + (((x2_4 * u_12) / (100 : Int32)) - (u_12 / (2 : Int32))))) * (u_12 / (2 : Int32))) + (((1000 : Int32) - (((1000 : Int32) * (u_12 - ((x5_7 * ((1000 : Int32) - (L_9.1.1 3))) / (1000 : Int32)))) / ((u_12 - ((x5_7 * ((1000 : Int32) - (L_9.1.1 3))) / (1000 : Int32))) + (((x2_4 * u_12) / (100 : Int32)) - (u_12 / (2 : Int32)))))) * u_12)) / (1000 : Int32)) (x6_8 + (-1 : Int32))
        else
          fX2_ofTwo_l1 N L_9 x1_3 x2_4 x3_5 n (1000 : Int32) (u_12 / (2 : Int32)) (x6_8 + (-1 : Int32))
      else
        fX2_ofTwo_l1 N L_9 x1_3 x2_4 x3_5 n (0 : Int32) ((x5_7 * ((1000 : Int32) - (L_9.1.1 3))) / (1000 : Int32)) (x6_8 + (-1 : Int32))
def fX2_ofTwo (N : Nat) (L : zLS) (x1 : Int32) (x2 : Int32) (x3 : Int32) : Option Int32 :=
  (fX4_valueAt N L (L.1.1 1)).bind fun u_2 =>
  (fX2_ofTwo_l1 N L x1 x2 x3 N (1000 : Int32) (u_2 / (2 : Int32)) ((L.1.1 1) - (1 : Int32))).bind (fun u_20 =>
    if x3 = 0 then
      some u_20.1
    else
      some u_20.2)
set_option maxHeartbeats 4000000 in
set_option maxRecDepth 100000 in
theorem qX2_ofTwo (l : Launch) (D : va_G) (E : zE) (KL : List Nat) (kc : Nat → zKC) (on : zNS) (rw rd ft tr : zOS) (la : Nat → zLS) (mo : zMS) (j : Nat) (hj : j < 5) (L : zLS) (N sz : Nat) (x1 : Int32) (x2 : Int32) (x3 : Int32) (out : Int32) (hF : fX2_ofTwo N L x1 x2 x3 = some out) : zCi l yX2_ofTwo zwX2_ofTwo ({ frames := 2, cells := 0, slots := 0, locals := 47 }) [.ref (E.1 (13 + 11 * j)), .int x1, .int x2, .int x3] D E sz (zW E KL kc on rw rd ft tr (va_up la j L) mo) (zW E KL kc on rw rd ft tr (va_up la j L) mo) out 0 0 := by
  refine zent_i (cc := cX2_ofTwo) (nL := 12) (by decide) rfl (Nat.le_of_ble_eq_true rfl) ?_
  intro p e s m args below meth c Q A hx hb hml hown hts hA hK hP hD hS hE ls hl hend
  have hown : s.vm.findClass RX2 = some m.cls := hown
  have hl : lv_has ls 12 [(0, .ref (E.1 (13 + 11 * j))), (1, .int x1), (2, .int x2), (3, .int x3)] := hl
  rw [fX2_ofTwo] at hF
  refine lv_sipush (v := 1000) hx hb dX2_ofTwo_0 (by decide) ?_
  refine lv_istore (lv' := [(4, .int (1000 : Int32)), (0, .ref (E.1 (13 + 11 * j))), (1, .int x1), (2, .int x2), (3, .int x3)]) hx hb dX2_ofTwo_3 hl (by decide) rfl (fun ls hl => ?_)
  refine lv_aload_n hx hb dX2_ofTwo_5 rfl (lv_at hl 1 rfl) ?_
  refine lv_aload_n hx hb dX2_ofTwo_6 rfl (lv_at hl 1 rfl) ?_
  refine va_get (D := D) (ci := 3) (v := .int (L.1.1 1)) (C := RX4) (T := TX4) (N := 19) hx hb hts (zi iX4) hown hK hP (13 + 11 * j) (zg_L _ _ _ _ _ _ _ _ _ _ hj _) rfl 1 (by decide) (zh hts k0_102) (fun _ h9 => h9) rfl dX2_ofTwo_7 ?_
  have hrv_1 := (va_recv hK hP (ci := 3) (q0 := 13 + 11 * j) rfl (zg_L _ _ _ _ _ _ _ _ _ _ hj _))
  obtain ⟨u_2, hu_2, hF⟩ := zbd hF
  refine zcall_i (va_runV (As := [.int (L.1.1 1)]) (rest := []) ⟨hx, hb, hml, hown, hts⟩ (qX4_valueAt l D E KL kc on rw rd ft tr la mo j hj L N _ (L.1.1 1) _ hu_2) (cwV 1 hts (zgV k3_18 k2_106 k2_107 k0_6 k2_108) rfl rfl rfl (by decide +kernel) ⟨Nat.le_of_ble_eq_true rfl, Nat.le_of_ble_eq_true rfl⟩) (zpv hE hS hA hK hP hD hrv_1) rfl rfl hl.1 rfl (lv_room (Nat.le_of_ble_eq_true rfl)) dX2_ofTwo_10 ⟨Nat.zero_le _, Nat.zero_le _⟩) hD hS hA (fun H locs hP hD hS => ?_)
  refine lv_iconst (v := 2) hx hb dX2_ofTwo_13 (by decide) ?_
  refine lv_idiv hx hb dX2_ofTwo_14 (by decide) ?_
  refine lv_istore (lv' := [(5, .int (u_2 / (2 : Int32))), (4, .int (1000 : Int32)), (0, .ref (E.1 (13 + 11 * j))), (1, .int x1), (2, .int x2), (3, .int x3)]) hx hb dX2_ofTwo_15 hl (by decide) rfl (fun ls hl => ?_)
  refine lv_aload_n hx hb dX2_ofTwo_17 rfl (lv_at hl 2 rfl) ?_
  refine va_get (D := D) (ci := 3) (v := .int (L.1.1 1)) (C := RX4) (T := TX4) (N := 19) hx hb hts (zi iX4) hown hK hP (13 + 11 * j) (zg_L _ _ _ _ _ _ _ _ _ _ hj _) rfl 1 (by decide) (zh hts k0_102) (fun _ h9 => h9) rfl dX2_ofTwo_18 ?_
  refine lv_iconst (v := 1) hx hb dX2_ofTwo_21 (by decide) ?_
  refine lv_isub hx hb dX2_ofTwo_22 ?_
  refine lv_istore (lv' := [(6, .int ((L.1.1 1) - (1 : Int32))), (5, .int (u_2 / (2 : Int32))), (4, .int (1000 : Int32)), (0, .ref (E.1 (13 + 11 * j))), (1, .int x1), (2, .int x2), (3, .int x3)]) hx hb dX2_ofTwo_23 hl (by decide) rfl (fun ls hl => ?_)
  obtain ⟨o_16, ho_16, hF⟩ := zbd hF
  have kx_1_0 : ∀ (x4_17 : Int32) (x5_18 : Int32), (x4_17, x5_18) = o_16 → ∀ (H : Heap) (locs : List Loc) (ls : Array Slot), va_P D vwCl (zW E KL kc on rw rd ft tr (va_up la j L) mo) H → va_D A (zW E KL kc on rw rd ft tr (va_up la j L) mo) → va_S A s.heap H locs → lv_has ls 12 [(3, .int x3), (4, .int x4_17), (5, .int x5_18)] → W p l e ({ frames := 2, cells := 0, slots := 0, locals := 47 } : Room) s m args below meth c H locs 0 0 Q (F0 m 154 ls []) := by
    intro x4_17 x5_18 ho H locs ls hP hD hS hl
    subst ho
    refine lv_iload_n hx hb dX2_ofTwo_154 rfl (lv_at hl 0 rfl) ?_
    refine lv_if_ne (tgt := 163) hx hb dX2_ofTwo_155 (by decide) (fun c_19 => ?_) (fun c_19 => ?_)
    · have hF := zif c_19 hF
      refine lv_iload hx hb dX2_ofTwo_163 (lv_at hl 2 rfl) ?_
      obtain rfl := Option.some.inj hF
      exact hend _ _ _ _ hP hD hS dX2_ofTwo_165
    · have hF := zit c_19 hF
      refine lv_iload hx hb dX2_ofTwo_158 (lv_at hl 1 rfl) ?_
      refine lv_goto (tgt := 165) hx hb dX2_ofTwo_160 (by decide) ?_
      obtain rfl := Option.some.inj hF
      exact hend _ _ _ _ hP hD hS dX2_ofTwo_165
  have lp_1 : ∀ (L_9 : zLS) (x1_3 : Int32) (x2_4 : Int32) (x3_5 : Int32) (n : Nat) (x4_6 : Int32) (x5_7 : Int32) (x6_8 : Int32) (o : (Int32 × Int32)), fX2_ofTwo_l1 N L_9 x1_3 x2_4 x3_5 n x4_6 x5_7 x6_8 = some o → (∀ (x4_17 : Int32) (x5_18 : Int32), (x4_17, x5_18) = o → ∀ (H : Heap) (locs : List Loc) (ls : Array Slot), va_P D vwCl (zW E KL kc on rw rd ft tr (va_up la j L_9) mo) H → va_D A (zW E KL kc on rw rd ft tr (va_up la j L_9) mo) → va_S A s.heap H locs → lv_has ls 12 [(3, .int x3_5), (4, .int x4_17), (5, .int x5_18)] → W p l e ({ frames := 2, cells := 0, slots := 0, locals := 47 } : Room) s m args below meth c H locs 0 0 Q (F0 m 154 ls [])) → ∀ (H : Heap) (locs : List Loc) (ls : Array Slot), va_P D vwCl (zW E KL kc on rw rd ft tr (va_up la j L_9) mo) H → va_D A (zW E KL kc on rw rd ft tr (va_up la j L_9) mo) → va_S A s.heap H locs → lv_has ls 12 [(0, .ref (E.1 (13 + 11 * j))), (1, .int x1_3), (2, .int x2_4), (3, .int x3_5), (4, .int x4_6), (5, .int x5_7), (6, .int x6_8)] → W p l e ({ frames := 2, cells := 0, slots := 0, locals := 47 } : Room) s m args below meth c H locs 0 0 Q (F0 m 25 ls []) := by
    intro L_9 x1_3 x2_4 x3_5 n
    induction n with
    | zero =>
      intro x4_6 x5_7 x6_8 o hF
      exact znone hF
    | succ n ih =>
      intro x4_6 x5_7 x6_8 o hF kx_1_0 H locs ls hP hD hS hl
      rw [fX2_ofTwo_l1] at hF
      refine lv_iload hx hb dX2_ofTwo_25 (lv_at hl 6 rfl) ?_
      refine lv_iload_n hx hb dX2_ofTwo_27 rfl (lv_at hl 1 rfl) ?_
      refine lv_icmp_lt (tgt := 154) hx hb dX2_ofTwo_28 (by decide) (fun c_10 => ?_) (fun c_10 => ?_)
      · have hF := zit c_10 hF
        exact kx_1_0 x4_6 x5_7 (Option.some.inj hF) _ _ _ hP hD hS (lv_sub hl [3, 4, 5] rfl)
      · have hF := zif c_10 hF
        refine lv_aload_n hx hb dX2_ofTwo_31 rfl (lv_at hl 0 rfl) ?_
        refine lv_iload hx hb dX2_ofTwo_32 (lv_at hl 6 rfl) ?_
        have hrv_11 := (va_recv hK hP (ci := 3) (q0 := 13 + 11 * j) rfl (zg_L _ _ _ _ _ _ _ _ _ _ hj _))
        obtain ⟨u_12, hu_12, hF⟩ := zbd hF
        refine zcall_i (va_runV (As := [.int x6_8]) (rest := []) ⟨hx, hb, hml, hown, hts⟩ (qX4_valueAt l D E KL kc on rw rd ft tr la mo j hj L_9 N _ x6_8 _ hu_12) (cwV 1 hts (zgV k3_18 k2_106 k2_107 k0_6 k2_108) rfl rfl rfl (by decide +kernel) ⟨Nat.le_of_ble_eq_true rfl, Nat.le_of_ble_eq_true rfl⟩) (zpv hE hS hA hK hP hD hrv_11) rfl rfl hl.1 rfl (lv_room (Nat.le_of_ble_eq_true rfl)) dX2_ofTwo_34 ⟨Nat.zero_le _, Nat.zero_le _⟩) hD hS hA (fun H locs hP hD hS => ?_)
        refine lv_istore (lv' := [(7, .int u_12), (0, .ref (E.1 (13 + 11 * j))), (1, .int x1_3), (2, .int x2_4), (3, .int x3_5), (4, .int x4_6), (5, .int x5_7), (6, .int x6_8)]) hx hb dX2_ofTwo_37 hl (by decide) rfl (fun ls hl => ?_)
        refine lv_iload hx hb dX2_ofTwo_39 (lv_at hl 0 rfl) ?_
        refine lv_iconst (v := 2) hx hb dX2_ofTwo_41 (by decide) ?_
        refine lv_idiv hx hb dX2_ofTwo_42 (by decide) ?_
        refine lv_istore (lv' := [(8, .int (u_12 / (2 : Int32))), (7, .int u_12), (0, .ref (E.1 (13 + 11 * j))), (1, .int x1_3), (2, .int x2_4), (3, .int x3_5), (4, .int x4_6), (5, .int x5_7), (6, .int x6_8)]) hx hb dX2_ofTwo_43 hl (by decide) rfl (fun ls hl => ?_)
        refine lv_iload hx hb dX2_ofTwo_45 (lv_at hl 7 rfl) ?_
        refine lv_sipush (v := 1000) hx hb dX2_ofTwo_47 (by decide) ?_
        refine lv_aload_n hx hb dX2_ofTwo_50 rfl (lv_at hl 2 rfl) ?_
        refine va_get (D := D) (ci := 3) (v := .int (L_9.1.1 3)) (C := RX4) (T := TX4) (N := 19) hx hb hts (zi iX4) hown hK hP (13 + 11 * j) (zg_L _ _ _ _ _ _ _ _ _ _ hj _) rfl 3 (by decide) (zh hts k0_108) (fun _ h9 => h9) rfl dX2_ofTwo_51 ?_
        refine lv_isub hx hb dX2_ofTwo_54 ?_
        refine lv_imul hx hb dX2_ofTwo_55 ?_
        refine lv_sipush (v := 1000) hx hb dX2_ofTwo_56 (by decide) ?_
        refine lv_idiv hx hb dX2_ofTwo_59 (by decide) ?_
        refine lv_istore (lv' := [(9, .int ((x5_7 * ((1000 : Int32) - (L_9.1.1 3))) / (1000 : Int32))), (8, .int (u_12 / (2 : Int32))), (7, .int u_12), (0, .ref (E.1 (13 + 11 * j))), (1, .int x1_3), (2, .int x2_4), (3, .int x3_5), (4, .int x4_6), (5, .int x5_7), (6, .int x6_8)]) hx hb dX2_ofTwo_60 hl (by decide) rfl (fun ls hl => ?_)
        refine lv_iload hx hb dX2_ofTwo_62 (lv_at hl 2 rfl) ?_
        refine lv_iload hx hb dX2_ofTwo_64 (lv_at hl 0 rfl) ?_
        refine lv_isub hx hb dX2_ofTwo_66 ?_
        refine lv_istore (lv' := [(10, .int (u_12 - ((x5_7 * ((1000 : Int32) - (L_9.1.1 3))) / (1000 : Int32)))), (9, .int ((x5_7 * ((1000 : Int32) - (L_9.1.1 3))) / (1000 : Int32))), (8, .int (u_12 / (2 : Int32))), (7, .int u_12), (0, .ref (E.1 (13 + 11 * j))), (1, .int x1_3), (2, .int x2_4), (3, .int x3_5), (4, .int x4_6), (5, .int x5_7), (6, .int x6_8)]) hx hb dX2_ofTwo_67 hl (by decide) rfl (fun ls hl => ?_)
        refine lv_iload_n hx hb dX2_ofTwo_69 rfl (lv_at hl 6 rfl) ?_
        refine lv_iload hx hb dX2_ofTwo_70 (lv_at hl 3 rfl) ?_
        refine lv_imul hx hb dX2_ofTwo_72 ?_
        refine lv_bipush (v := 100) hx hb dX2_ofTwo_73 (by decide) ?_
        refine lv_idiv hx hb dX2_ofTwo_75 (by decide) ?_
        refine lv_iload hx hb dX2_ofTwo_76 (lv_at hl 2 rfl) ?_
        refine lv_isub hx hb dX2_ofTwo_78 ?_
        refine lv_istore (lv' := [(11, .int (((x2_4 * u_12) / (100 : Int32)) - (u_12 / (2 : Int32)))), (10, .int (u_12 - ((x5_7 * ((1000 : Int32) - (L_9.1.1 3))) / (1000 : Int32)))), (9, .int ((x5_7 * ((1000 : Int32) - (L_9.1.1 3))) / (1000 : Int32))), (8, .int (u_12 / (2 : Int32))), (7, .int u_12), (0, .ref (E.1 (13 + 11 * j))), (1, .int x1_3), (2, .int x2_4), (3, .int x3_5), (4, .int x4_6), (5, .int x5_7), (6, .int x6_8)]) hx hb dX2_ofTwo_79 hl (by decide) rfl (fun ls hl => ?_)
        refine lv_iload hx hb dX2_ofTwo_81 (lv_at hl 1 rfl) ?_
        refine lv_if_gt (tgt := 96) hx hb dX2_ofTwo_83 (by decide) (fun c_13 => ?_) (fun c_13 => ?_)
        · have hF := zit c_13 hF
          refine lv_iload hx hb dX2_ofTwo_96 (lv_at hl 0 rfl) ?_
          refine lv_if_gt (tgt := 113) hx hb dX2_ofTwo_98 (by decide) (fun c_14 => ?_) (fun c_14 => ?_)
          · have hF := zit c_14 hF
            refine lv_sipush (v := 1000) hx hb dX2_ofTwo_113 (by decide) ?_
            refine lv_iload hx hb dX2_ofTwo_116 (lv_at hl 1 rfl) ?_
            refine lv_imul hx hb dX2_ofTwo_118 ?_
            refine lv_iload hx hb dX2_ofTwo_119 (lv_at hl 1 rfl) ?_
            refine lv_iload hx hb dX2_ofTwo_121 (lv_at hl 0 rfl) ?_
            refine lv_iadd hx hb dX2_ofTwo_123 ?_
            obtain ⟨g_15, hF⟩ := zgd hF
            refine lv_idiv hx hb dX2_ofTwo_124 g_15 ?_
            refine lv_istore (lv' := [(4, .int (((1000 : Int32) * (u_12 - ((x5_7 * ((1000 : Int32) - (L_9.1.1 3))) / (1000 : Int32)))) / ((u_12 - ((x5_7 * ((1000 : Int32) - (L_9.1.1 3))) / (1000 : Int32))) + (((x2_4 * u_12) / (100 : Int32)) - (u_12 / (2 : Int32)))))), (11, .int (((x2_4 * u_12) / (100 : Int32)) - (u_12 / (2 : Int32)))), (10, .int (u_12 - ((x5_7 * ((1000 : Int32) - (L_9.1.1 3))) / (1000 : Int32)))), (9, .int ((x5_7 * ((1000 : Int32) - (L_9.1.1 3))) / (1000 : Int32))), (8, .int (u_12 / (2 : Int32))), (7, .int u_12), (0, .ref (E.1 (13 + 11 * j))), (1, .int x1_3), (2, .int x2_4), (3, .int x3_5), (5, .int x5_7), (6, .int x6_8)]) hx hb dX2_ofTwo_125 hl (by decide) rfl (fun ls hl => ?_)
            refine lv_iload hx hb dX2_ofTwo_127 (lv_at hl 0 rfl) ?_
            refine lv_iload hx hb dX2_ofTwo_129 (lv_at hl 4 rfl) ?_
            refine lv_imul hx hb dX2_ofTwo_131 ?_
            refine lv_sipush (v := 1000) hx hb dX2_ofTwo_132 (by decide) ?_
            refine lv_iload hx hb dX2_ofTwo_135 (lv_at hl 0 rfl) ?_
            refine lv_isub hx hb dX2_ofTwo_137 ?_
            refine lv_iload hx hb dX2_ofTwo_138 (lv_at hl 5 rfl) ?_
            refine lv_imul hx hb dX2_ofTwo_140 ?_
            refine lv_iadd hx hb dX2_ofTwo_141 ?_
            refine lv_sipush (v := 1000) hx hb dX2_ofTwo_142 (by decide) ?_
            refine lv_idiv hx hb dX2_ofTwo_145 (by decide) ?_
            refine lv_istore (lv' := [(5, .int ((((((1000 : Int32) * (u_12 - ((x5_7 * ((1000 : Int32) - (L_9.1.1 3))) / (1000 : Int32)))) / ((u_12 - ((x5_7 * ((1000 : Int32) - (L_9.1.1 3))) / (1000 : Int32))) + (((x2_4 * u_12) / (100 : Int32)) - (u_12 / (2 : Int32))))) * (u_12 / (2 : Int32))) + (((1000 : Int32) - (((1000 : Int32) * (u_12 - ((x5_7 * ((1000 : Int32) - (L_9.1.1 3))) / (1000 : Int32)))) / ((u_12 - ((x5_7 * ((1000 : Int32) - (L_9.1.1 3))) / (1000 : Int32))) + (((x2_4 * u_12) / (100 : Int32)) - (u_12 / (2 : Int32)))))) * u_12)) / (1000 : Int32))), (4, .int (((1000 : Int32) * (u_12 - ((x5_7 * ((1000 : Int32) - (L_9.1.1 3))) / (1000 : Int32)))) / ((u_12 - ((x5_7 * ((1000 : Int32) - (L_9.1.1 3))) / (1000 : Int32))) + (((x2_4 * u_12) / (100 : Int32)) - (u_12 / (2 : Int32)))))), (11, .int (((x2_4 * u_12) / (100 : Int32)) - (u_12 / (2 : Int32)))), (10, .int (u_12 - ((x5_7 * ((1000 : Int32) - (L_9.1.1 3))) / (1000 : Int32)))), (9, .int ((x5_7 * ((1000 : Int32) - (L_9.1.1 3))) / (1000 : Int32))), (8, .int (u_12 / (2 : Int32))), (7, .int u_12), (0, .ref (E.1 (13 + 11 * j))), (1, .int x1_3), (2, .int x2_4), (3, .int x3_5), (6, .int x6_8)]) hx hb dX2_ofTwo_146 hl (by decide) rfl (fun ls hl => ?_)
            refine lv_iinc (v := x6_8 + (-1 : Int32)) (lv' := [(6, .int (x6_8 + (-1 : Int32))), (5, .int ((((((1000 : Int32) * (u_12 - ((x5_7 * ((1000 : Int32) - (L_9.1.1 3))) / (1000 : Int32)))) / ((u_12 - ((x5_7 * ((1000 : Int32) - (L_9.1.1 3))) / (1000 : Int32))) + (((x2_4 * u_12) / (100 : Int32)) - (u_12 / (2 : Int32))))) * (u_12 / (2 : Int32))) + (((1000 : Int32) - (((1000 : Int32) * (u_12 - ((x5_7 * ((1000 : Int32) - (L_9.1.1 3))) / (1000 : Int32)))) / ((u_12 - ((x5_7 * ((1000 : Int32) - (L_9.1.1 3))) / (1000 : Int32))) + (((x2_4 * u_12) / (100 : Int32)) - (u_12 / (2 : Int32)))))) * u_12)) / (1000 : Int32))), (4, .int (((1000 : Int32) * (u_12 - ((x5_7 * ((1000 : Int32) - (L_9.1.1 3))) / (1000 : Int32)))) / ((u_12 - ((x5_7 * ((1000 : Int32) - (L_9.1.1 3))) / (1000 : Int32))) + (((x2_4 * u_12) / (100 : Int32)) - (u_12 / (2 : Int32)))))), (11, .int (((x2_4 * u_12) / (100 : Int32)) - (u_12 / (2 : Int32)))), (10, .int (u_12 - ((x5_7 * ((1000 : Int32) - (L_9.1.1 3))) / (1000 : Int32)))), (9, .int ((x5_7 * ((1000 : Int32) - (L_9.1.1 3))) / (1000 : Int32))), (8, .int (u_12 / (2 : Int32))), (7, .int u_12), (0, .ref (E.1 (13 + 11 * j))), (1, .int x1_3), (2, .int x2_4), (3, .int x3_5)]) hx hb dX2_ofTwo_148 hl (k := 11) rfl rfl (by decide) rfl (fun ls hl => ?_)
            refine lv_goto (tgt := 25) hx hb dX2_ofTwo_151 (by decide) ?_
            exact ih (((1000 : Int32) * (u_12 - ((x5_7 * ((1000 : Int32) - (L_9.1.1 3))) / (1000 : Int32)))) / ((u_12 - ((x5_7 * ((1000 : Int32) - (L_9.1.1 3))) / (1000 : Int32))) + (((x2_4 * u_12) / (100 : Int32)) - (u_12 / (2 : Int32))))) ((((((1000 : Int32) * (u_12 - ((x5_7 * ((1000 : Int32) - (L_9.1.1 3))) / (1000 : Int32)))) / ((u_12 - ((x5_7 * ((1000 : Int32) - (L_9.1.1 3))) / (1000 : Int32))) + (((x2_4 * u_12) / (100 : Int32)) - (u_12 / (2 : Int32))))) * (u_12 / (2 : Int32))) + (((1000 : Int32) - (((1000 : Int32) * (u_12 - ((x5_7 * ((1000 : Int32) - (L_9.1.1 3))) / (1000 : Int32)))) / ((u_12 - ((x5_7 * ((1000 : Int32) - (L_9.1.1 3))) / (1000 : Int32))) + (((x2_4 * u_12) / (100 : Int32)) - (u_12 / (2 : Int32)))))) * u_12)) / (1000 : Int32)) (x6_8 + (-1 : Int32)) _ hF kx_1_0 _ _ _ hP hD hS (lv_sub hl [8, 9, 10, 11, 2, 1, 0] rfl)
          · have hF := zif c_14 hF
            refine lv_sipush (v := 1000) hx hb dX2_ofTwo_101 (by decide) ?_
            refine lv_istore (lv' := [(4, .int (1000 : Int32)), (11, .int (((x2_4 * u_12) / (100 : Int32)) - (u_12 / (2 : Int32)))), (10, .int (u_12 - ((x5_7 * ((1000 : Int32) - (L_9.1.1 3))) / (1000 : Int32)))), (9, .int ((x5_7 * ((1000 : Int32) - (L_9.1.1 3))) / (1000 : Int32))), (8, .int (u_12 / (2 : Int32))), (7, .int u_12), (0, .ref (E.1 (13 + 11 * j))), (1, .int x1_3), (2, .int x2_4), (3, .int x3_5), (5, .int x5_7), (6, .int x6_8)]) hx hb dX2_ofTwo_104 hl (by decide) rfl (fun ls hl => ?_)
            refine lv_iload hx hb dX2_ofTwo_106 (lv_at hl 4 rfl) ?_
            refine lv_istore (lv' := [(5, .int (u_12 / (2 : Int32))), (4, .int (1000 : Int32)), (11, .int (((x2_4 * u_12) / (100 : Int32)) - (u_12 / (2 : Int32)))), (10, .int (u_12 - ((x5_7 * ((1000 : Int32) - (L_9.1.1 3))) / (1000 : Int32)))), (9, .int ((x5_7 * ((1000 : Int32) - (L_9.1.1 3))) / (1000 : Int32))), (8, .int (u_12 / (2 : Int32))), (7, .int u_12), (0, .ref (E.1 (13 + 11 * j))), (1, .int x1_3), (2, .int x2_4), (3, .int x3_5), (6, .int x6_8)]) hx hb dX2_ofTwo_108 hl (by decide) rfl (fun ls hl => ?_)
            refine lv_goto (tgt := 148) hx hb dX2_ofTwo_110 (by decide) ?_
            refine lv_iinc (v := x6_8 + (-1 : Int32)) (lv' := [(6, .int (x6_8 + (-1 : Int32))), (5, .int (u_12 / (2 : Int32))), (4, .int (1000 : Int32)), (11, .int (((x2_4 * u_12) / (100 : Int32)) - (u_12 / (2 : Int32)))), (10, .int (u_12 - ((x5_7 * ((1000 : Int32) - (L_9.1.1 3))) / (1000 : Int32)))), (9, .int ((x5_7 * ((1000 : Int32) - (L_9.1.1 3))) / (1000 : Int32))), (8, .int (u_12 / (2 : Int32))), (7, .int u_12), (0, .ref (E.1 (13 + 11 * j))), (1, .int x1_3), (2, .int x2_4), (3, .int x3_5)]) hx hb dX2_ofTwo_148 hl (k := 11) rfl rfl (by decide) rfl (fun ls hl => ?_)
            refine lv_goto (tgt := 25) hx hb dX2_ofTwo_151 (by decide) ?_
            exact ih (1000 : Int32) (u_12 / (2 : Int32)) (x6_8 + (-1 : Int32)) _ hF kx_1_0 _ _ _ hP hD hS (lv_sub hl [8, 9, 10, 11, 2, 1, 0] rfl)
        · have hF := zif c_13 hF
          refine lv_iconst (v := 0) hx hb dX2_ofTwo_86 (by decide) ?_
          refine lv_istore (lv' := [(4, .int (0 : Int32)), (11, .int (((x2_4 * u_12) / (100 : Int32)) - (u_12 / (2 : Int32)))), (10, .int (u_12 - ((x5_7 * ((1000 : Int32) - (L_9.1.1 3))) / (1000 : Int32)))), (9, .int ((x5_7 * ((1000 : Int32) - (L_9.1.1 3))) / (1000 : Int32))), (8, .int (u_12 / (2 : Int32))), (7, .int u_12), (0, .ref (E.1 (13 + 11 * j))), (1, .int x1_3), (2, .int x2_4), (3, .int x3_5), (5, .int x5_7), (6, .int x6_8)]) hx hb dX2_ofTwo_87 hl (by decide) rfl (fun ls hl => ?_)
          refine lv_iload hx hb dX2_ofTwo_89 (lv_at hl 3 rfl) ?_
          refine lv_istore (lv' := [(5, .int ((x5_7 * ((1000 : Int32) - (L_9.1.1 3))) / (1000 : Int32))), (4, .int (0 : Int32)), (11, .int (((x2_4 * u_12) / (100 : Int32)) - (u_12 / (2 : Int32)))), (10, .int (u_12 - ((x5_7 * ((1000 : Int32) - (L_9.1.1 3))) / (1000 : Int32)))), (9, .int ((x5_7 * ((1000 : Int32) - (L_9.1.1 3))) / (1000 : Int32))), (8, .int (u_12 / (2 : Int32))), (7, .int u_12), (0, .ref (E.1 (13 + 11 * j))), (1, .int x1_3), (2, .int x2_4), (3, .int x3_5), (6, .int x6_8)]) hx hb dX2_ofTwo_91 hl (by decide) rfl (fun ls hl => ?_)
          refine lv_goto (tgt := 148) hx hb dX2_ofTwo_93 (by decide) ?_
          refine lv_iinc (v := x6_8 + (-1 : Int32)) (lv' := [(6, .int (x6_8 + (-1 : Int32))), (5, .int ((x5_7 * ((1000 : Int32) - (L_9.1.1 3))) / (1000 : Int32))), (4, .int (0 : Int32)), (11, .int (((x2_4 * u_12) / (100 : Int32)) - (u_12 / (2 : Int32)))), (10, .int (u_12 - ((x5_7 * ((1000 : Int32) - (L_9.1.1 3))) / (1000 : Int32)))), (9, .int ((x5_7 * ((1000 : Int32) - (L_9.1.1 3))) / (1000 : Int32))), (8, .int (u_12 / (2 : Int32))), (7, .int u_12), (0, .ref (E.1 (13 + 11 * j))), (1, .int x1_3), (2, .int x2_4), (3, .int x3_5)]) hx hb dX2_ofTwo_148 hl (k := 11) rfl rfl (by decide) rfl (fun ls hl => ?_)
          refine lv_goto (tgt := 25) hx hb dX2_ofTwo_151 (by decide) ?_
          exact ih (0 : Int32) ((x5_7 * ((1000 : Int32) - (L_9.1.1 3))) / (1000 : Int32)) (x6_8 + (-1 : Int32)) _ hF kx_1_0 _ _ _ hP hD hS (lv_sub hl [8, 9, 10, 11, 2, 1, 0] rfl)
  exact lp_1 L x1 x2 x3 N (1000 : Int32) (u_2 / (2 : Int32)) ((L.1.1 1) - (1 : Int32)) _ ho_16 kx_1_0 _ _ _ hP hD hS (lv_sub hl [3, 4, 5, 6, 2, 1, 0] rfl)
def fX2_findCorner_l1 (N : Nat) (KL : List Nat) (kc : Nat → zKC) (L_10 : zLS) (x5_8 : Int32) : Nat → Int32 → zOS → Option zOS
  | 0, _, _ => none
  | n + 1, x6_9, ft_11 =>
    if (120 : Int32) ≤ x6_9 then
      some ft_11
    else
      (fX2_stepOrder N ft_11).bind fun u_13 =>
      if u_13.1 = 0 then
        some u_13.2
      else
        (fX2_sumOf N KL kc u_13.2 L_10 x5_8).bind fun u_15 =>
        if (u_13.2.1 0) ≤ u_15 then
          fX2_findCorner_l1 N KL kc L_10 x5_8 n (x6_9 + (1 : Int32)) u_13.2
        else
          (fX2_keepOrder N u_13.2 u_15).bind fun u_17 =>
          fX2_findCorner_l1 N KL kc L_10 x5_8 n (x6_9 + (1 : Int32)) u_17
def fX2_findCorner (N : Nat) (KL : List Nat) (kc : Nat → zKC) (ft : zOS) (L : zLS) (x2 : Int32) (x3 : Int32) (x4 : Int32) : Option zOS :=
  (fX4_hadBy N L x3).bind fun u_2 =>
  (fX4_worthIn N L x4 u_2).bind fun u_4 =>
  (fX2_listBuyable N ft L x2 x3).bind fun u_5 =>
  (fX2_sumOf N KL kc u_5 L u_4).bind fun u_6 =>
  (fX2_keepOrder N u_5 u_6).bind fun u_7 =>
  (fX2_findCorner_l1 N KL kc L u_4 N (0 : Int32) u_7).bind (fun u_20 =>
    some u_20)
set_option maxHeartbeats 4000000 in
set_option maxRecDepth 100000 in
theorem qX2_findCorner (l : Launch) (D : va_G) (E : zE) (KL : List Nat) (kc : Nat → zKC) (on : zNS) (rw rd ft tr : zOS) (la : Nat → zLS) (mo : zMS) (j : Nat) (hj : j < 5) (L : zLS) (N sz : Nat) (x2 : Int32) (x3 : Int32) (x4 : Int32) (out : zOS) (hF : fX2_findCorner N KL kc ft L x2 x3 x4 = some out) : zCv l yX2_findCorner zwX2_findCorner ({ frames := 3, cells := 0, slots := 0, locals := 81 }) [.ref (E.1 7), .ref (E.1 (13 + 11 * j)), .int x2, .int x3, .int x4] D E sz (zW E KL kc on rw rd ft tr (va_up la j L) mo) (zW E KL kc on rw rd out tr (va_up la j L) mo) 0 0 := by
  refine zent_v (cc := cX2_findCorner) (nL := 8) (by decide) rfl (Nat.le_of_ble_eq_true rfl) ?_
  intro p e s m args below meth c Q A hx hb hml hown hts hA hK hP hD hS hE ls hl hend
  have hown : s.vm.findClass RX2 = some m.cls := hown
  have hl : lv_has ls 8 [(0, .ref (E.1 7)), (1, .ref (E.1 (13 + 11 * j))), (2, .int x2), (3, .int x3), (4, .int x4)] := hl
  rw [fX2_findCorner] at hF
  refine lv_aload_n hx hb dX2_findCorner_0 rfl (lv_at hl 1 rfl) ?_
  refine lv_iload hx hb dX2_findCorner_1 (lv_at hl 4 rfl) ?_
  refine lv_aload_n hx hb dX2_findCorner_3 rfl (lv_at hl 1 rfl) ?_
  refine lv_iload_n hx hb dX2_findCorner_4 rfl (lv_at hl 3 rfl) ?_
  have hrv_1 := (va_recv hK hP (ci := 3) (q0 := 13 + 11 * j) rfl (zg_L _ _ _ _ _ _ _ _ _ _ hj _))
  obtain ⟨u_2, hu_2, hF⟩ := zbd hF
  refine zcall_i (va_runV (As := [.int x3]) (rest := [.int x4, .ref (E.1 (13 + 11 * j))]) ⟨hx, hb, hml, hown, hts⟩ (qX4_hadBy l D E KL kc on rw rd ft tr la mo j hj L N _ x3 _ hu_2) (cwV 1 hts (zgV k3_67 k2_178 k2_179 k0_6 k2_180) rfl rfl rfl (by decide +kernel) ⟨Nat.le_of_ble_eq_true rfl, Nat.le_of_ble_eq_true rfl⟩) (zpv hE hS hA hK hP hD hrv_1) rfl rfl hl.1 rfl (lv_room (Nat.le_of_ble_eq_true rfl)) dX2_findCorner_5 ⟨Nat.zero_le _, Nat.zero_le _⟩) hD hS hA (fun H locs hP hD hS => ?_)
  have hrv_3 := (va_recv hK hP (ci := 3) (q0 := 13 + 11 * j) rfl (zg_L _ _ _ _ _ _ _ _ _ _ hj _))
  obtain ⟨u_4, hu_4, hF⟩ := zbd hF
  refine zcall_i (va_runV (As := [.int x4, .int u_2]) (rest := []) ⟨hx, hb, hml, hown, hts⟩ (qX4_worthIn l D E KL kc on rw rd ft tr la mo j hj L N _ x4 u_2 _ hu_4) (cwV 2 hts (zgV k3_68 k2_190 k2_191 k0_6 k2_192) rfl rfl rfl (by decide +kernel) ⟨Nat.le_of_ble_eq_true rfl, Nat.le_of_ble_eq_true rfl⟩) (zpv hE hS hA hK hP hD hrv_3) rfl rfl hl.1 rfl (lv_room (Nat.le_of_ble_eq_true rfl)) dX2_findCorner_8 ⟨Nat.zero_le _, Nat.zero_le _⟩) hD hS hA (fun H locs hP hD hS => ?_)
  refine lv_istore (lv' := [(5, .int u_4), (0, .ref (E.1 7)), (1, .ref (E.1 (13 + 11 * j))), (2, .int x2), (3, .int x3), (4, .int x4)]) hx hb dX2_findCorner_11 hl (by decide) rfl (fun ls hl => ?_)
  refine lv_aload_n hx hb dX2_findCorner_13 rfl (lv_at hl 1 rfl) ?_
  refine lv_aload_n hx hb dX2_findCorner_14 rfl (lv_at hl 2 rfl) ?_
  refine lv_iload_n hx hb dX2_findCorner_15 rfl (lv_at hl 3 rfl) ?_
  refine lv_iload_n hx hb dX2_findCorner_16 rfl (lv_at hl 4 rfl) ?_
  obtain ⟨u_5, hu_5, hF⟩ := zbd hF
  refine zcall_v (va_runV (As := [.ref (E.1 (13 + 11 * j)), .int x2, .int x3]) (rest := []) ⟨hx, hb, hml, hown, hts⟩ (qX2_listBuyable l D E KL kc on rw rd ft tr la mo j hj L N _ x2 x3 _ hu_5) (cwV 3 hts (zgV k3_69 k3_71 kp1_8 k0_5 k3_72) rfl rfl rfl (by decide +kernel) ⟨Nat.le_of_ble_eq_true rfl, Nat.le_of_ble_eq_true rfl⟩) (zpv hE hS hA hK hP hD (va_recv hK hP (ci := 2) (q0 := 7) rfl (zg_ft _ _ _ _ _ _ _ _ _ _))) rfl rfl hl.1 rfl (lv_room (Nat.le_of_ble_eq_true rfl)) dX2_findCorner_17 ⟨Nat.zero_le _, Nat.zero_le _⟩) hD hS hA (fun H locs hP hD hS => ?_)
  refine lv_aload_n hx hb dX2_findCorner_20 rfl (lv_at hl 1 rfl) ?_
  refine lv_aload_n hx hb dX2_findCorner_21 rfl (lv_at hl 1 rfl) ?_
  refine lv_aload_n hx hb dX2_findCorner_22 rfl (lv_at hl 2 rfl) ?_
  refine lv_iload hx hb dX2_findCorner_23 (lv_at hl 0 rfl) ?_
  obtain ⟨u_6, hu_6, hF⟩ := zbd hF
  refine zcall_i (va_runV (As := [.ref (E.1 (13 + 11 * j)), .int u_4]) (rest := [.ref (E.1 7)]) ⟨hx, hb, hml, hown, hts⟩ (qX2_sumOf l D E KL kc on rw rd u_5 tr la mo j hj L N _ u_4 _ hu_6) (cwV 2 hts (zgV k3_74 k3_76 kp1_9 k0_5 k3_77) rfl rfl rfl (by decide +kernel) ⟨Nat.le_of_ble_eq_true rfl, Nat.le_of_ble_eq_true rfl⟩) (zpv hE hS hA hK hP hD (va_recv hK hP (ci := 2) (q0 := 7) rfl (zg_ft _ _ _ _ _ _ _ _ _ _))) rfl rfl hl.1 rfl (lv_room (Nat.le_of_ble_eq_true rfl)) dX2_findCorner_25 ⟨Nat.zero_le _, Nat.zero_le _⟩) hD hS hA (fun H locs hP hD hS => ?_)
  obtain ⟨u_7, hu_7, hF⟩ := zbd hF
  refine zcall_v (va_runV (As := [.int u_6]) (rest := []) ⟨hx, hb, hml, hown, hts⟩ (qX2_keepOrder l D E KL kc on rw rd u_5 tr (va_up la j L) mo N _ u_6 _ hu_7) (cwV 1 hts (zgV k3_79 k3_81 kp1_10 k0_5 k3_82) rfl rfl rfl (by decide +kernel) ⟨Nat.le_of_ble_eq_true rfl, Nat.le_of_ble_eq_true rfl⟩) (zpv hE hS hA hK hP hD (va_recv hK hP (ci := 2) (q0 := 7) rfl (zg_ft _ _ _ _ _ _ _ _ _ _))) rfl rfl hl.1 rfl (lv_room (Nat.le_of_ble_eq_true rfl)) dX2_findCorner_28 ⟨Nat.zero_le _, Nat.zero_le _⟩) hD hS hA (fun H locs hP hD hS => ?_)
  refine lv_iconst (v := 0) hx hb dX2_findCorner_31 (by decide) ?_
  refine lv_istore (lv' := [(6, .int (0 : Int32)), (5, .int u_4), (0, .ref (E.1 7)), (1, .ref (E.1 (13 + 11 * j))), (2, .int x2), (3, .int x3), (4, .int x4)]) hx hb dX2_findCorner_32 hl (by decide) rfl (fun ls hl => ?_)
  obtain ⟨o_18, ho_18, hF⟩ := zbd hF
  have kx_1_0 : ∀ (ft_19 : zOS), ft_19 = o_18 → ∀ (H : Heap) (locs : List Loc) (ls : Array Slot), va_P D vwCl (zW E KL kc on rw rd ft_19 tr (va_up la j L) mo) H → va_D A (zW E KL kc on rw rd ft_19 tr (va_up la j L) mo) → va_S A s.heap H locs → lv_has ls 8 [] → W p l e ({ frames := 3, cells := 0, slots := 0, locals := 81 } : Room) s m args below meth c H locs 0 0 Q (F0 m 78 ls []) := by
    intro ft_19 ho H locs ls hP hD hS hl
    subst ho
    obtain rfl := Option.some.inj hF
    exact hend _ _ _ _ hP hD hS dX2_findCorner_78
  have lp_1 : ∀ (L_10 : zLS) (x5_8 : Int32) (n : Nat) (x6_9 : Int32) (ft_11 : zOS) (o : zOS), fX2_findCorner_l1 N KL kc L_10 x5_8 n x6_9 ft_11 = some o → (∀ (ft_19 : zOS), ft_19 = o → ∀ (H : Heap) (locs : List Loc) (ls : Array Slot), va_P D vwCl (zW E KL kc on rw rd ft_19 tr (va_up la j L_10) mo) H → va_D A (zW E KL kc on rw rd ft_19 tr (va_up la j L_10) mo) → va_S A s.heap H locs → lv_has ls 8 [] → W p l e ({ frames := 3, cells := 0, slots := 0, locals := 81 } : Room) s m args below meth c H locs 0 0 Q (F0 m 78 ls [])) → ∀ (H : Heap) (locs : List Loc) (ls : Array Slot), va_P D vwCl (zW E KL kc on rw rd ft_11 tr (va_up la j L_10) mo) H → va_D A (zW E KL kc on rw rd ft_11 tr (va_up la j L_10) mo) → va_S A s.heap H locs → lv_has ls 8 [(0, .ref (E.1 7)), (1, .ref (E.1 (13 + 11 * j))), (5, .int x5_8), (6, .int x6_9)] → W p l e ({ frames := 3, cells := 0, slots := 0, locals := 81 } : Room) s m args below meth c H locs 0 0 Q (F0 m 34 ls []) := by
    intro L_10 x5_8 n
    induction n with
    | zero =>
      intro x6_9 ft_11 o hF
      exact znone hF
    | succ n ih =>
      intro x6_9 ft_11 o hF kx_1_0 H locs ls hP hD hS hl
      rw [fX2_findCorner_l1] at hF
      refine lv_iload hx hb dX2_findCorner_34 (lv_at hl 3 rfl) ?_
      refine lv_bipush (v := 120) hx hb dX2_findCorner_36 (by decide) ?_
      refine lv_icmp_ge (tgt := 78) hx hb dX2_findCorner_38 (by decide) (fun c_12 => ?_) (fun c_12 => ?_)
      · have hF := zit c_12 hF
        exact kx_1_0 ft_11 (Option.some.inj hF) _ _ _ hP hD hS (lv_sub hl [] rfl)
      · have hF := zif c_12 hF
        refine lv_aload_n hx hb dX2_findCorner_41 rfl (lv_at hl 0 rfl) ?_
        obtain ⟨u_13, hu_13, hF⟩ := zbd hF
        refine zcall_i (va_runV (As := []) (rest := []) ⟨hx, hb, hml, hown, hts⟩ (qX2_stepOrder l D E KL kc on rw rd ft_11 tr (va_up la j L_10) mo N _ _ hu_13) (cwV 0 hts (zgV k3_84 k3_86 kp1_11 k0_5 k3_87) rfl rfl rfl (by decide +kernel) ⟨Nat.le_of_ble_eq_true rfl, Nat.le_of_ble_eq_true rfl⟩) (zpv hE hS hA hK hP hD (va_recv hK hP (ci := 2) (q0 := 7) rfl (zg_ft _ _ _ _ _ _ _ _ _ _))) rfl rfl hl.1 rfl (lv_room (Nat.le_of_ble_eq_true rfl)) dX2_findCorner_42 ⟨Nat.zero_le _, Nat.zero_le _⟩) hD hS hA (fun H locs hP hD hS => ?_)
        refine lv_if_eq (tgt := 78) hx hb dX2_findCorner_45 (by decide) (fun c_14 => ?_) (fun c_14 => ?_)
        · have hF := zit c_14 hF
          exact kx_1_0 u_13.2 (Option.some.inj hF) _ _ _ hP hD hS (lv_sub hl [] rfl)
        · have hF := zif c_14 hF
          refine lv_aload_n hx hb dX2_findCorner_48 rfl (lv_at hl 0 rfl) ?_
          refine lv_aload_n hx hb dX2_findCorner_49 rfl (lv_at hl 1 rfl) ?_
          refine lv_iload hx hb dX2_findCorner_50 (lv_at hl 2 rfl) ?_
          obtain ⟨u_15, hu_15, hF⟩ := zbd hF
          refine zcall_i (va_runV (As := [.ref (E.1 (13 + 11 * j)), .int x5_8]) (rest := []) ⟨hx, hb, hml, hown, hts⟩ (qX2_sumOf l D E KL kc on rw rd u_13.2 tr la mo j hj L_10 N _ x5_8 _ hu_15) (cwV 2 hts (zgV k3_74 k3_76 kp1_9 k0_5 k3_77) rfl rfl rfl (by decide +kernel) ⟨Nat.le_of_ble_eq_true rfl, Nat.le_of_ble_eq_true rfl⟩) (zpv hE hS hA hK hP hD (va_recv hK hP (ci := 2) (q0 := 7) rfl (zg_ft _ _ _ _ _ _ _ _ _ _))) rfl rfl hl.1 rfl (lv_room (Nat.le_of_ble_eq_true rfl)) dX2_findCorner_52 ⟨Nat.zero_le _, Nat.zero_le _⟩) hD hS hA (fun H locs hP hD hS => ?_)
          refine lv_istore (lv' := [(7, .int u_15), (0, .ref (E.1 7)), (1, .ref (E.1 (13 + 11 * j))), (5, .int x5_8), (6, .int x6_9)]) hx hb dX2_findCorner_55 hl (by decide) rfl (fun ls hl => ?_)
          refine lv_iload hx hb dX2_findCorner_57 (lv_at hl 0 rfl) ?_
          refine lv_aload_n hx hb dX2_findCorner_59 rfl (lv_at hl 1 rfl) ?_
          refine va_get (D := D) (ci := 2) (v := .int (u_13.2.1 0)) (C := RX2) (T := TX2) (N := 7) hx hb hts (zi iX2) hown hK hP 7 (zg_ft _ _ _ _ _ _ _ _ _ _) rfl 0 (by decide) (zh hts k0_177) (fun _ h9 => h9) rfl dX2_findCorner_60 ?_
          refine lv_icmp_ge (tgt := 72) hx hb dX2_findCorner_63 (by decide) (fun c_16 => ?_) (fun c_16 => ?_)
          · have hF := zit c_16 hF
            refine lv_iinc (v := x6_9 + (1 : Int32)) (lv' := [(6, .int (x6_9 + (1 : Int32))), (7, .int u_15), (0, .ref (E.1 7)), (1, .ref (E.1 (13 + 11 * j))), (5, .int x5_8)]) hx hb dX2_findCorner_72 hl (k := 4) rfl rfl (by decide) rfl (fun ls hl => ?_)
            refine lv_goto (tgt := 34) hx hb dX2_findCorner_75 (by decide) ?_
            exact ih (x6_9 + (1 : Int32)) u_13.2 _ hF kx_1_0 _ _ _ hP hD hS (lv_sub hl [2, 3, 4, 0] rfl)
          · have hF := zif c_16 hF
            refine lv_aload_n hx hb dX2_findCorner_66 rfl (lv_at hl 1 rfl) ?_
            refine lv_iload hx hb dX2_findCorner_67 (lv_at hl 0 rfl) ?_
            obtain ⟨u_17, hu_17, hF⟩ := zbd hF
            refine zcall_v (va_runV (As := [.int u_15]) (rest := []) ⟨hx, hb, hml, hown, hts⟩ (qX2_keepOrder l D E KL kc on rw rd u_13.2 tr (va_up la j L_10) mo N _ u_15 _ hu_17) (cwV 1 hts (zgV k3_79 k3_81 kp1_10 k0_5 k3_82) rfl rfl rfl (by decide +kernel) ⟨Nat.le_of_ble_eq_true rfl, Nat.le_of_ble_eq_true rfl⟩) (zpv hE hS hA hK hP hD (va_recv hK hP (ci := 2) (q0 := 7) rfl (zg_ft _ _ _ _ _ _ _ _ _ _))) rfl rfl hl.1 rfl (lv_room (Nat.le_of_ble_eq_true rfl)) dX2_findCorner_69 ⟨Nat.zero_le _, Nat.zero_le _⟩) hD hS hA (fun H locs hP hD hS => ?_)
            refine lv_iinc (v := x6_9 + (1 : Int32)) (lv' := [(6, .int (x6_9 + (1 : Int32))), (7, .int u_15), (0, .ref (E.1 7)), (1, .ref (E.1 (13 + 11 * j))), (5, .int x5_8)]) hx hb dX2_findCorner_72 hl (k := 4) rfl rfl (by decide) rfl (fun ls hl => ?_)
            refine lv_goto (tgt := 34) hx hb dX2_findCorner_75 (by decide) ?_
            exact ih (x6_9 + (1 : Int32)) u_17 _ hF kx_1_0 _ _ _ hP hD hS (lv_sub hl [2, 3, 4, 0] rfl)
  exact lp_1 L u_4 N (0 : Int32) u_7 _ ho_18 kx_1_0 _ _ _ hP hD hS (lv_sub hl [2, 3, 1, 0] rfl)
def fX2_isFit_l1 (N : Nat) (KL : List Nat) (kc : Nat → zKC) (ft_5 : zOS) : Nat → Int32 → zLS → Option (Sum zLS zLS)
  | 0, _, _ => none
  | n + 1, x2_4, T_6 =>
    if (T_6.1.1 1) < x2_4 then
      some (Sum.inl T_6)
    else
      (fX4_sellAll N KL kc T_6).bind fun u_9 =>
      (fX2_hasSoldJustSo N ft_5 u_9 x2_4).bind fun u_10 =>
      if u_10 = 0 then
        some (Sum.inr u_9)
      else
        fX2_isFit_l1 N KL kc ft_5 n (x2_4 + (1 : Int32)) (zLi u_9 8 ((u_9.1.1 8) + (1 : Int32)))
def fX2_isFit (N : Nat) (KL : List Nat) (kc : Nat → zKC) (ft : zOS) (T : zLS) (x1 : Int32) : Option (Int32 × zLS) :=
  if (x1 &&& (ft.1 2)) = (ft.1 2) then
    (fX4_beginWith N KL kc T x1).bind fun u_3 =>
    (fX2_isFit_l1 N KL kc ft N (0 : Int32) u_3).bind (Sum.elim (fun u_14 =>
      some ((1 : Int32), u_14))
    (fun u_16 =>
      some ((0 : Int32), u_16)))
  else
    some ((0 : Int32), T)
set_option maxHeartbeats 4000000 in
set_option maxRecDepth 100000 in
theorem qX2_isFit (l : Launch) (D : va_G) (E : zE) (KL : List Nat) (kc : Nat → zKC) (on : zNS) (rw rd ft tr : zOS) (la : Nat → zLS) (mo : zMS) (T : zLS) (N sz : Nat) (x1 : Int32) (out : Int32 × zLS) (hF : fX2_isFit N KL kc ft T x1 = some out) : zCi l yX2_isFit zwX2_isFit ({ frames := 5, cells := 0, slots := 0, locals := 114 }) [.ref (E.1 7), .int x1] D E sz (zW E KL kc on rw rd ft tr (va_up la 4 T) mo) (zW E KL kc on rw rd ft tr (va_up la 4 out.2) mo) out.1 0 0 := by
  refine zent_z (cc := cX2_isFit) (nL := 3) (by decide) rfl (Nat.le_of_ble_eq_true rfl) ?_
  intro p e s m args below meth c Q A hx hb hml hown hts hA hK hP hD hS hE ls hl hend
  have hown : s.vm.findClass RX2 = some m.cls := hown
  have hl : lv_has ls 3 [(0, .ref (E.1 7)), (1, .int x1)] := hl
  rw [fX2_isFit] at hF
  refine lv_iload_n hx hb dX2_isFit_0 rfl (lv_at hl 1 rfl) ?_
  refine lv_aload_n hx hb dX2_isFit_1 rfl (lv_at hl 0 rfl) ?_
  refine va_get (D := D) (ci := 2) (v := .int (ft.1 2)) (C := RX2) (T := TX2) (N := 7) hx hb hts (zi iX2) hown hK hP 7 (zg_ft _ _ _ _ _ _ _ _ _ _) rfl 2 (by decide) (zh hts k0_180) (fun _ h9 => h9) rfl dX2_isFit_2 ?_
  refine lv_iand hx hb dX2_isFit_5 ?_
  refine lv_aload_n hx hb dX2_isFit_6 rfl (lv_at hl 0 rfl) ?_
  refine va_get (D := D) (ci := 2) (v := .int (ft.1 2)) (C := RX2) (T := TX2) (N := 7) hx hb hts (zi iX2) hown hK hP 7 (zg_ft _ _ _ _ _ _ _ _ _ _) rfl 2 (by decide) (zh hts k0_180) (fun _ h9 => h9) rfl dX2_isFit_7 ?_
  refine lv_icmp_eq (tgt := 15) hx hb dX2_isFit_10 (by decide) (fun c_1 => ?_) (fun c_1 => ?_)
  · have hF := zit c_1 hF
    refine lv_aload_n hx hb dX2_isFit_15 rfl (lv_at hl 0 rfl) ?_
    refine va_get (D := D) (ci := 2) (v := .ref (E.1 (13 + 11 * 4))) (C := RX2) (T := TX2) (N := 7) hx hb hts (zi iX2) hown hK hP 7 (zg_ft _ _ _ _ _ _ _ _ _ _) rfl 3 (by decide) (zh hts k0_181) (fun _ h9 => h9) rfl dX2_isFit_16 ?_
    refine lv_iload_n hx hb dX2_isFit_19 rfl (lv_at hl 1 rfl) ?_
    have hrv_2 := (va_recv hK hP (ci := 3) (q0 := 13 + 11 * 4) rfl (zg_L _ _ _ _ _ _ _ _ _ _ (show (4 : Nat) < 5 by decide) _))
    obtain ⟨u_3, hu_3, hF⟩ := zbd hF
    refine zcall_v (va_runV (As := [.int x1]) (rest := []) ⟨hx, hb, hml, hown, hts⟩ (qX4_beginWith l D E KL kc on rw rd ft tr la mo 4 (show (4 : Nat) < 5 by decide) T N _ x1 _ hu_3) (cwV 1 hts (zgV k3_131 k3_132 k3_133 k0_6 k3_134) rfl rfl rfl (by decide +kernel) ⟨Nat.le_of_ble_eq_true rfl, Nat.le_of_ble_eq_true rfl⟩) (zpv hE hS hA hK hP hD hrv_2) rfl rfl hl.1 rfl (lv_room (Nat.le_of_ble_eq_true rfl)) dX2_isFit_20 ⟨Nat.zero_le _, Nat.zero_le _⟩) hD hS hA (fun H locs hP hD hS => ?_)
    refine lv_iconst (v := 0) hx hb dX2_isFit_23 (by decide) ?_
    refine lv_istore_n (lv' := [(2, .int (0 : Int32)), (0, .ref (E.1 7)), (1, .int x1)]) hx hb dX2_isFit_24 rfl hl (by decide) rfl (fun ls hl => ?_)
    obtain ⟨o_12, ho_12, hF⟩ := zbd hF
    have kx_1_0 : ∀ (T_13 : zLS), (Sum.inl T_13) = o_12 → ∀ (H : Heap) (locs : List Loc) (ls : Array Slot), va_P D vwCl (zW E KL kc on rw rd ft tr (va_up la 4 T_13) mo) H → va_D A (zW E KL kc on rw rd ft tr (va_up la 4 T_13) mo) → va_S A s.heap H locs → lv_has ls 3 [] → W p l e ({ frames := 5, cells := 0, slots := 0, locals := 114 } : Room) s m args below meth c H locs 0 0 Q (F0 m 72 ls []) := by
      intro T_13 ho H locs ls hP hD hS hl
      subst ho
      have hF := zinl hF
      refine lv_iconst (v := 1) hx hb dX2_isFit_72 (by decide) ?_
      obtain rfl := Option.some.inj hF
      exact hend _ _ _ _ znar1 hP hD hS dX2_isFit_73
    have kx_1_1 : ∀ (T_15 : zLS), (Sum.inr T_15) = o_12 → ∀ (H : Heap) (locs : List Loc) (ls : Array Slot), va_P D vwCl (zW E KL kc on rw rd ft tr (va_up la 4 T_15) mo) H → va_D A (zW E KL kc on rw rd ft tr (va_up la 4 T_15) mo) → va_S A s.heap H locs → lv_has ls 3 [] → W p l e ({ frames := 5, cells := 0, slots := 0, locals := 114 } : Room) s m args below meth c H locs 0 0 Q (F0 m 51 ls []) := by
      intro T_15 ho H locs ls hP hD hS hl
      subst ho
      have hF := zinr hF
      refine lv_iconst (v := 0) hx hb dX2_isFit_51 (by decide) ?_
      obtain rfl := Option.some.inj hF
      exact hend _ _ _ _ znar0 hP hD hS dX2_isFit_52
    have lp_1 : ∀ (ft_5 : zOS) (n : Nat) (x2_4 : Int32) (T_6 : zLS) (o : (Sum zLS zLS)), fX2_isFit_l1 N KL kc ft_5 n x2_4 T_6 = some o → (∀ (T_13 : zLS), (Sum.inl T_13) = o → ∀ (H : Heap) (locs : List Loc) (ls : Array Slot), va_P D vwCl (zW E KL kc on rw rd ft_5 tr (va_up la 4 T_13) mo) H → va_D A (zW E KL kc on rw rd ft_5 tr (va_up la 4 T_13) mo) → va_S A s.heap H locs → lv_has ls 3 [] → W p l e ({ frames := 5, cells := 0, slots := 0, locals := 114 } : Room) s m args below meth c H locs 0 0 Q (F0 m 72 ls [])) → (∀ (T_15 : zLS), (Sum.inr T_15) = o → ∀ (H : Heap) (locs : List Loc) (ls : Array Slot), va_P D vwCl (zW E KL kc on rw rd ft_5 tr (va_up la 4 T_15) mo) H → va_D A (zW E KL kc on rw rd ft_5 tr (va_up la 4 T_15) mo) → va_S A s.heap H locs → lv_has ls 3 [] → W p l e ({ frames := 5, cells := 0, slots := 0, locals := 114 } : Room) s m args below meth c H locs 0 0 Q (F0 m 51 ls [])) → ∀ (H : Heap) (locs : List Loc) (ls : Array Slot), va_P D vwCl (zW E KL kc on rw rd ft_5 tr (va_up la 4 T_6) mo) H → va_D A (zW E KL kc on rw rd ft_5 tr (va_up la 4 T_6) mo) → va_S A s.heap H locs → lv_has ls 3 [(0, .ref (E.1 7)), (2, .int x2_4)] → W p l e ({ frames := 5, cells := 0, slots := 0, locals := 114 } : Room) s m args below meth c H locs 0 0 Q (F0 m 25 ls []) := by
      intro ft_5 n
      induction n with
      | zero =>
        intro x2_4 T_6 o hF
        exact znone hF
      | succ n ih =>
        intro x2_4 T_6 o hF kx_1_0 kx_1_1 H locs ls hP hD hS hl
        rw [fX2_isFit_l1] at hF
        refine lv_iload_n hx hb dX2_isFit_25 rfl (lv_at hl 1 rfl) ?_
        refine lv_aload_n hx hb dX2_isFit_26 rfl (lv_at hl 0 rfl) ?_
        refine va_get (D := D) (ci := 2) (v := .ref (E.1 (13 + 11 * 4))) (C := RX2) (T := TX2) (N := 7) hx hb hts (zi iX2) hown hK hP 7 (zg_ft _ _ _ _ _ _ _ _ _ _) rfl 3 (by decide) (zh hts k0_181) (fun _ h9 => h9) rfl dX2_isFit_27 ?_
        refine va_get (D := D) (ci := 3) (v := .int (T_6.1.1 1)) (C := RX4) (T := TX4) (N := 19) hx hb hts (zi iX4) hown hK hP (13 + 11 * 4) (zg_L _ _ _ _ _ _ _ _ _ _ (show (4 : Nat) < 5 by decide) _) rfl 1 (by decide) (zh hts k0_102) (fun _ h9 => h9) rfl dX2_isFit_30 ?_
        refine lv_icmp_gt (tgt := 72) hx hb dX2_isFit_33 (by decide) (fun c_7 => ?_) (fun c_7 => ?_)
        · have hF := zit c_7 hF
          exact kx_1_0 T_6 (Option.some.inj hF) _ _ _ hP hD hS (lv_sub hl [] rfl)
        · have hF := zif c_7 hF
          refine lv_aload_n hx hb dX2_isFit_36 rfl (lv_at hl 0 rfl) ?_
          refine va_get (D := D) (ci := 2) (v := .ref (E.1 (13 + 11 * 4))) (C := RX2) (T := TX2) (N := 7) hx hb hts (zi iX2) hown hK hP 7 (zg_ft _ _ _ _ _ _ _ _ _ _) rfl 3 (by decide) (zh hts k0_181) (fun _ h9 => h9) rfl dX2_isFit_37 ?_
          have hrv_8 := (va_recv hK hP (ci := 3) (q0 := 13 + 11 * 4) rfl (zg_L _ _ _ _ _ _ _ _ _ _ (show (4 : Nat) < 5 by decide) _))
          obtain ⟨u_9, hu_9, hF⟩ := zbd hF
          refine zcall_v (va_runV (As := []) (rest := []) ⟨hx, hb, hml, hown, hts⟩ (qX4_sellAll l D E KL kc on rw rd ft_5 tr la mo 4 (show (4 : Nat) < 5 by decide) T_6 N _ _ hu_9) (cwV 0 hts (zgV k3_136 k2_126 k2_127 k0_6 k2_128) rfl rfl rfl (by decide +kernel) ⟨Nat.le_of_ble_eq_true rfl, Nat.le_of_ble_eq_true rfl⟩) (zpv hE hS hA hK hP hD hrv_8) rfl rfl hl.1 rfl (lv_room (Nat.le_of_ble_eq_true rfl)) dX2_isFit_40 ⟨Nat.zero_le _, Nat.zero_le _⟩) hD hS hA (fun H locs hP hD hS => ?_)
          refine lv_aload_n hx hb dX2_isFit_43 rfl (lv_at hl 0 rfl) ?_
          refine lv_iload_n hx hb dX2_isFit_44 rfl (lv_at hl 1 rfl) ?_
          obtain ⟨u_10, hu_10, hF⟩ := zbd hF
          refine zcall_i (va_runV (As := [.int x2_4]) (rest := []) ⟨hx, hb, hml, hown, hts⟩ (qX2_hasSoldJustSo l D E KL kc on rw rd ft_5 tr la mo u_9 N _ x2_4 _ hu_10) (cwV 1 hts (zgV k3_137 k3_139 kp1_14 k0_5 k3_140) rfl rfl rfl (by decide +kernel) ⟨Nat.le_of_ble_eq_true rfl, Nat.le_of_ble_eq_true rfl⟩) (zpv hE hS hA hK hP hD (va_recv hK hP (ci := 2) (q0 := 7) rfl (zg_ft _ _ _ _ _ _ _ _ _ _))) rfl rfl hl.1 rfl (lv_room (Nat.le_of_ble_eq_true rfl)) dX2_isFit_45 ⟨Nat.zero_le _, Nat.zero_le _⟩) hD hS hA (fun H locs hP hD hS => ?_)
          refine lv_if_ne (tgt := 53) hx hb dX2_isFit_48 (by decide) (fun c_11 => ?_) (fun c_11 => ?_)
          · have hF := zif c_11 hF
            refine lv_aload_n hx hb dX2_isFit_53 rfl (lv_at hl 0 rfl) ?_
            refine va_get (D := D) (ci := 2) (v := .ref (E.1 (13 + 11 * 4))) (C := RX2) (T := TX2) (N := 7) hx hb hts (zi iX2) hown hK hP 7 (zg_ft _ _ _ _ _ _ _ _ _ _) rfl 3 (by decide) (zh hts k0_181) (fun _ h9 => h9) rfl dX2_isFit_54 ?_
            refine lv_dup hx hb dX2_isFit_57 rfl ?_
            refine va_get (D := D) (ci := 3) (v := .int (u_9.1.1 8)) (C := RX4) (T := TX4) (N := 19) hx hb hts (zi iX4) hown hK hP (13 + 11 * 4) (zg_L _ _ _ _ _ _ _ _ _ _ (show (4 : Nat) < 5 by decide) _) rfl 8 (by decide) (zh hts k0_127) (fun _ h9 => h9) rfl dX2_isFit_58 ?_
            refine lv_iconst (v := 1) hx hb dX2_isFit_61 (by decide) ?_
            refine lv_iadd hx hb dX2_isFit_62 ?_
            refine va_put (D := D) (ci := 3) (v := .int ((u_9.1.1 8) + (1 : Int32))) (ty := .int) (C := RX4) (T := TX4) (N := 19) hx hb hts (zi iX4) tyX4 tyX4_ok nmX4 hown hK hP hD hS (13 + 11 * 4) (zg_L _ _ _ _ _ _ _ _ _ _ (show (4 : Nat) < 5 by decide) _) rfl 8 (by decide) (zh hts k0_127) (fun _ h9 => h9) rfl (by decide +kernel) rfl rfl (Nat.le_of_ble_eq_true rfl) dX2_isFit_63 (fun H locs hP hD hS => ?_)
            rw [zs_L_8 _ _ _ _ _ _ _ _ _ _ (show (4 : Nat) < 5 by decide)] at hP hD
            refine lv_iinc (v := x2_4 + (1 : Int32)) (lv' := [(2, .int (x2_4 + (1 : Int32))), (0, .ref (E.1 7))]) hx hb dX2_isFit_66 hl (k := 1) rfl rfl (by decide) rfl (fun ls hl => ?_)
            refine lv_goto (tgt := 25) hx hb dX2_isFit_69 (by decide) ?_
            exact ih (x2_4 + (1 : Int32)) (zLi u_9 8 ((u_9.1.1 8) + (1 : Int32))) _ hF kx_1_0 kx_1_1 _ _ _ hP hD hS (lv_sub hl [1, 0] rfl)
          · have hF := zit c_11 hF
            exact kx_1_1 u_9 (Option.some.inj hF) _ _ _ hP hD hS (lv_sub hl [] rfl)
    exact lp_1 ft N (0 : Int32) u_3 _ ho_12 kx_1_0 kx_1_1 _ _ _ hP hD hS (lv_sub hl [1, 0] rfl)
  · have hF := zif c_1 hF
    refine lv_iconst (v := 0) hx hb dX2_isFit_13 (by decide) ?_
    obtain rfl := Option.some.inj hF
    exact hend _ _ _ _ znar0 hP hD hS dX2_isFit_14
def fX2_countFits_l1 (N : Nat) (KL : List Nat) (kc : Nat → zKC) (ft_5 : zOS) (L_6 : zLS) : Nat → Int32 → Int32 → zLS → Option (Int32 × zLS)
  | 0, _, _, _ => none
  | n + 1, x2_3, x3_4, T_7 =>
    if ((1 : Int32) <<< ((L_6.1.1 6) &&& 31)) ≤ x3_4 then
      some (x2_3, T_7)
    else
      (fX2_isFit N KL kc ft_5 T_7 x3_4).bind fun u_9 =>
      if u_9.1 = 0 then
        fX2_countFits_l1 N KL kc ft_5 L_6 n x2_3 (x3_4 + (1 : Int32)) u_9.2
      else
        fX2_countFits_l1 N KL kc ft_5 L_6 n (x2_3 + (1 : Int32)) (x3_4 + (1 : Int32)) u_9.2
def fX2_countFits (N : Nat) (KL : List Nat) (kc : Nat → zKC) (ft : zOS) (L : zLS) (T : zLS) : Option (Int32 × zLS) :=
  (fX4_takeFrom N KL kc T L).bind fun u_2 =>
  (fX2_countFits_l1 N KL kc ft L N (0 : Int32) (0 : Int32) u_2).bind (fun u_14 =>
    some (u_14.1, u_14.2))
set_option maxHeartbeats 4000000 in
set_option maxRecDepth 100000 in
theorem qX2_countFits (l : Launch) (D : va_G) (E : zE) (KL : List Nat) (kc : Nat → zKC) (on : zNS) (rw rd ft tr : zOS) (la : Nat → zLS) (mo : zMS) (j : Nat) (hj : j < 5) (L : zLS) (T : zLS) (hne : j ≠ 4) (N sz : Nat)  (out : Int32 × zLS) (hF : fX2_countFits N KL kc ft L T = some out) : zCi l yX2_countFits zwX2_countFits ({ frames := 6, cells := 0, slots := 0, locals := 136 }) [.ref (E.1 7), .ref (E.1 (13 + 11 * j))] D E sz (zW E KL kc on rw rd ft tr (va_up (va_up la j L) 4 T) mo) (zW E KL kc on rw rd ft tr (va_up (va_up la j L) 4 out.2) mo) out.1 0 0 := by
  refine zent_i (cc := cX2_countFits) (nL := 4) (by decide) rfl (Nat.le_of_ble_eq_true rfl) ?_
  intro p e s m args below meth c Q A hx hb hml hown hts hA hK hP hD hS hE ls hl hend
  have hown : s.vm.findClass RX2 = some m.cls := hown
  have hl : lv_has ls 4 [(0, .ref (E.1 7)), (1, .ref (E.1 (13 + 11 * j)))] := hl
  rw [fX2_countFits] at hF
  refine lv_aload_n hx hb dX2_countFits_0 rfl (lv_at hl 0 rfl) ?_
  refine va_get (D := D) (ci := 2) (v := .ref (E.1 (13 + 11 * 4))) (C := RX2) (T := TX2) (N := 7) hx hb hts (zi iX2) hown hK hP 7 (zg_ft _ _ _ _ _ _ _ _ _ _) rfl 3 (by decide) (zh hts k0_181) (fun _ h9 => h9) rfl dX2_countFits_1 ?_
  refine lv_aload_n hx hb dX2_countFits_4 rfl (lv_at hl 1 rfl) ?_
  have hrv_1 := (va_recv hK hP (ci := 3) (q0 := 13 + 11 * 4) rfl (zg_L _ _ _ _ _ _ _ _ _ _ (show (4 : Nat) < 5 by decide) _))
  rw [zup_comm _ (hne)] at hP hD
  obtain ⟨u_2, hu_2, hF⟩ := zbd hF
  refine zcall_v (va_runV (As := [.ref (E.1 (13 + 11 * j))]) (rest := []) ⟨hx, hb, hml, hown, hts⟩ (qX4_takeFrom l D E KL kc on rw rd ft tr la mo 4 (show (4 : Nat) < 5 by decide) T j hj L (hne.symm) N _ _ hu_2) (cwV 1 hts (zgV k3_122 k3_123 k3_124 k0_6 k3_125) rfl rfl rfl (by decide +kernel) ⟨Nat.le_of_ble_eq_true rfl, Nat.le_of_ble_eq_true rfl⟩) (zpv hE hS hA hK hP hD hrv_1) rfl rfl hl.1 rfl (lv_room (Nat.le_of_ble_eq_true rfl)) dX2_countFits_5 ⟨Nat.zero_le _, Nat.zero_le _⟩) hD hS hA (fun H locs hP hD hS => ?_)
  refine lv_iconst (v := 0) hx hb dX2_countFits_8 (by decide) ?_
  refine lv_istore_n (lv' := [(2, .int (0 : Int32)), (0, .ref (E.1 7)), (1, .ref (E.1 (13 + 11 * j)))]) hx hb dX2_countFits_9 rfl hl (by decide) rfl (fun ls hl => ?_)
  refine lv_iconst (v := 0) hx hb dX2_countFits_10 (by decide) ?_
  refine lv_istore_n (lv' := [(3, .int (0 : Int32)), (2, .int (0 : Int32)), (0, .ref (E.1 7)), (1, .ref (E.1 (13 + 11 * j)))]) hx hb dX2_countFits_11 rfl hl (by decide) rfl (fun ls hl => ?_)
  rw [zup_comm _ (hne.symm)] at hP hD
  obtain ⟨o_11, ho_11, hF⟩ := zbd hF
  have kx_1_0 : ∀ (x2_12 : Int32) (T_13 : zLS), (x2_12, T_13) = o_11 → ∀ (H : Heap) (locs : List Loc) (ls : Array Slot), va_P D vwCl (zW E KL kc on rw rd ft tr (va_up (va_up la j L) 4 T_13) mo) H → va_D A (zW E KL kc on rw rd ft tr (va_up (va_up la j L) 4 T_13) mo) → va_S A s.heap H locs → lv_has ls 4 [(2, .int x2_12)] → W p l e ({ frames := 6, cells := 0, slots := 0, locals := 136 } : Room) s m args below meth c H locs 0 0 Q (F0 m 39 ls []) := by
    intro x2_12 T_13 ho H locs ls hP hD hS hl
    subst ho
    refine lv_iload_n hx hb dX2_countFits_39 rfl (lv_at hl 0 rfl) ?_
    obtain rfl := Option.some.inj hF
    exact hend _ _ _ _ hP hD hS dX2_countFits_40
  have lp_1 : ∀ (ft_5 : zOS) (L_6 : zLS) (n : Nat) (x2_3 : Int32) (x3_4 : Int32) (T_7 : zLS) (o : (Int32 × zLS)), fX2_countFits_l1 N KL kc ft_5 L_6 n x2_3 x3_4 T_7 = some o → (∀ (x2_12 : Int32) (T_13 : zLS), (x2_12, T_13) = o → ∀ (H : Heap) (locs : List Loc) (ls : Array Slot), va_P D vwCl (zW E KL kc on rw rd ft_5 tr (va_up (va_up la j L_6) 4 T_13) mo) H → va_D A (zW E KL kc on rw rd ft_5 tr (va_up (va_up la j L_6) 4 T_13) mo) → va_S A s.heap H locs → lv_has ls 4 [(2, .int x2_12)] → W p l e ({ frames := 6, cells := 0, slots := 0, locals := 136 } : Room) s m args below meth c H locs 0 0 Q (F0 m 39 ls [])) → ∀ (H : Heap) (locs : List Loc) (ls : Array Slot), va_P D vwCl (zW E KL kc on rw rd ft_5 tr (va_up (va_up la j L_6) 4 T_7) mo) H → va_D A (zW E KL kc on rw rd ft_5 tr (va_up (va_up la j L_6) 4 T_7) mo) → va_S A s.heap H locs → lv_has ls 4 [(0, .ref (E.1 7)), (1, .ref (E.1 (13 + 11 * j))), (2, .int x2_3), (3, .int x3_4)] → W p l e ({ frames := 6, cells := 0, slots := 0, locals := 136 } : Room) s m args below meth c H locs 0 0 Q (F0 m 12 ls []) := by
    intro ft_5 L_6 n
    induction n with
    | zero =>
      intro x2_3 x3_4 T_7 o hF
      exact znone hF
    | succ n ih =>
      intro x2_3 x3_4 T_7 o hF kx_1_0 H locs ls hP hD hS hl
      rw [fX2_countFits_l1] at hF
      refine lv_iload_n hx hb dX2_countFits_12 rfl (lv_at hl 3 rfl) ?_
      refine lv_iconst (v := 1) hx hb dX2_countFits_13 (by decide) ?_
      refine lv_aload_n hx hb dX2_countFits_14 rfl (lv_at hl 1 rfl) ?_
      rw [zup_comm _ (hne)] at hP hD
      refine va_get (D := D) (ci := 3) (v := .int (L_6.1.1 6)) (C := RX4) (T := TX4) (N := 19) hx hb hts (zi iX4) hown hK hP (13 + 11 * j) (zg_L _ _ _ _ _ _ _ _ _ _ hj _) rfl 6 (by decide) (zh hts k0_120) (fun _ h9 => h9) rfl dX2_countFits_15 ?_
      refine lv_ishl hx hb dX2_countFits_18 ?_
      refine lv_icmp_ge (tgt := 39) hx hb dX2_countFits_19 (by decide) (fun c_8 => ?_) (fun c_8 => ?_)
      · have hF := zit c_8 hF
        rw [zup_comm _ (hne.symm)] at hP hD
        exact kx_1_0 x2_3 T_7 (Option.some.inj hF) _ _ _ hP hD hS (lv_sub hl [2] rfl)
      · have hF := zif c_8 hF
        refine lv_aload_n hx hb dX2_countFits_22 rfl (lv_at hl 0 rfl) ?_
        refine lv_iload_n hx hb dX2_countFits_23 rfl (lv_at hl 3 rfl) ?_
        rw [zup_comm _ (hne.symm)] at hP hD
        obtain ⟨u_9, hu_9, hF⟩ := zbd hF
        refine zcall_i (va_runV (As := [.int x3_4]) (rest := []) ⟨hx, hb, hml, hown, hts⟩ (qX2_isFit l D E KL kc on rw rd ft_5 tr (va_up la j L_6) mo T_7 N _ x3_4 _ hu_9) (cwV 1 hts (zgV k3_127 k3_129 kp1_13 k0_5 k3_130) rfl rfl rfl (by decide +kernel) ⟨Nat.le_of_ble_eq_true rfl, Nat.le_of_ble_eq_true rfl⟩) (zpv hE hS hA hK hP hD (va_recv hK hP (ci := 2) (q0 := 7) rfl (zg_ft _ _ _ _ _ _ _ _ _ _))) rfl rfl hl.1 rfl (lv_room (Nat.le_of_ble_eq_true rfl)) dX2_countFits_24 ⟨Nat.zero_le _, Nat.zero_le _⟩) hD hS hA (fun H locs hP hD hS => ?_)
        refine lv_if_eq (tgt := 33) hx hb dX2_countFits_27 (by decide) (fun c_10 => ?_) (fun c_10 => ?_)
        · have hF := zit c_10 hF
          refine lv_iinc (v := x3_4 + (1 : Int32)) (lv' := [(3, .int (x3_4 + (1 : Int32))), (0, .ref (E.1 7)), (1, .ref (E.1 (13 + 11 * j))), (2, .int x2_3)]) hx hb dX2_countFits_33 hl (k := 3) rfl rfl (by decide) rfl (fun ls hl => ?_)
          refine lv_goto (tgt := 12) hx hb dX2_countFits_36 (by decide) ?_
          exact ih x2_3 (x3_4 + (1 : Int32)) u_9.2 _ hF kx_1_0 _ _ _ hP hD hS (lv_sub hl [1, 2, 3, 0] rfl)
        · have hF := zif c_10 hF
          refine lv_iinc (v := x2_3 + (1 : Int32)) (lv' := [(2, .int (x2_3 + (1 : Int32))), (0, .ref (E.1 7)), (1, .ref (E.1 (13 + 11 * j))), (3, .int x3_4)]) hx hb dX2_countFits_30 hl (k := 2) rfl rfl (by decide) rfl (fun ls hl => ?_)
          refine lv_iinc (v := x3_4 + (1 : Int32)) (lv' := [(3, .int (x3_4 + (1 : Int32))), (2, .int (x2_3 + (1 : Int32))), (0, .ref (E.1 7)), (1, .ref (E.1 (13 + 11 * j)))]) hx hb dX2_countFits_33 hl (k := 3) rfl rfl (by decide) rfl (fun ls hl => ?_)
          refine lv_goto (tgt := 12) hx hb dX2_countFits_36 (by decide) ?_
          exact ih (x2_3 + (1 : Int32)) (x3_4 + (1 : Int32)) u_9.2 _ hF kx_1_0 _ _ _ hP hD hS (lv_sub hl [2, 3, 1, 0] rfl)
  exact lp_1 ft L N (0 : Int32) (0 : Int32) u_2 _ ho_11 kx_1_0 _ _ _ hP hD hS (lv_sub hl [2, 3, 1, 0] rfl)
def fX2_fitAt_l1 (N : Nat) (KL : List Nat) (kc : Nat → zKC) (ft_5 : zOS) (L_6 : zLS) : Nat → Int32 → Int32 → zLS → Option (Sum zLS (Int32 × zLS))
  | 0, _, _, _ => none
  | n + 1, x3_3, x4_4, T_7 =>
    if ((1 : Int32) <<< ((L_6.1.1 6) &&& 31)) ≤ x4_4 then
      some (Sum.inl T_7)
    else
      (fX2_isFit N KL kc ft_5 T_7 x4_4).bind fun u_9 =>
      if u_9.1 = 0 then
        fX2_fitAt_l1 N KL kc ft_5 L_6 n x3_3 (x4_4 + (1 : Int32)) u_9.2
      else
        if x3_3 = 0 then
          some (Sum.inr (x4_4, u_9.2))
        else
          fX2_fitAt_l1 N KL kc ft_5 L_6 n (x3_3 + (-1 : Int32)) (x4_4 + (1 : Int32)) u_9.2
def fX2_fitAt (N : Nat) (KL : List Nat) (kc : Nat → zKC) (ft : zOS) (L : zLS) (T : zLS) (x2 : Int32) : Option (Int32 × zLS) :=
  (fX4_takeFrom N KL kc T L).bind fun u_2 =>
  (fX2_fitAt_l1 N KL kc ft L N x2 (0 : Int32) u_2).bind (Sum.elim (fun u_14 =>
    some ((-1000000 : Int32), u_14))
  (fun u_17 =>
    some (u_17.1, u_17.2)))
set_option maxHeartbeats 4000000 in
set_option maxRecDepth 100000 in
theorem qX2_fitAt (l : Launch) (D : va_G) (E : zE) (KL : List Nat) (kc : Nat → zKC) (on : zNS) (rw rd ft tr : zOS) (la : Nat → zLS) (mo : zMS) (j : Nat) (hj : j < 5) (L : zLS) (T : zLS) (hne : j ≠ 4) (N sz : Nat) (x2 : Int32) (out : Int32 × zLS) (hF : fX2_fitAt N KL kc ft L T x2 = some out) : zCi l yX2_fitAt zwX2_fitAt ({ frames := 6, cells := 0, slots := 0, locals := 136 }) [.ref (E.1 7), .ref (E.1 (13 + 11 * j)), .int x2] D E sz (zW E KL kc on rw rd ft tr (va_up (va_up la j L) 4 T) mo) (zW E KL kc on rw rd ft tr (va_up (va_up la j L) 4 out.2) mo) out.1 0 0 := by
  refine zent_i (cc := cX2_fitAt) (nL := 5) (by decide) rfl (Nat.le_of_ble_eq_true rfl) ?_
  intro p e s m args below meth c Q A hx hb hml hown hts hA hK hP hD hS hE ls hl hend
  have hown : s.vm.findClass RX2 = some m.cls := hown
  have hl : lv_has ls 5 [(0, .ref (E.1 7)), (1, .ref (E.1 (13 + 11 * j))), (2, .int x2)] := hl
  rw [fX2_fitAt] at hF
  refine lv_aload_n hx hb dX2_fitAt_0 rfl (lv_at hl 0 rfl) ?_
  refine va_get (D := D) (ci := 2) (v := .ref (E.1 (13 + 11 * 4))) (C := RX2) (T := TX2) (N := 7) hx hb hts (zi iX2) hown hK hP 7 (zg_ft _ _ _ _ _ _ _ _ _ _) rfl 3 (by decide) (zh hts k0_181) (fun _ h9 => h9) rfl dX2_fitAt_1 ?_
  refine lv_aload_n hx hb dX2_fitAt_4 rfl (lv_at hl 1 rfl) ?_
  have hrv_1 := (va_recv hK hP (ci := 3) (q0 := 13 + 11 * 4) rfl (zg_L _ _ _ _ _ _ _ _ _ _ (show (4 : Nat) < 5 by decide) _))
  rw [zup_comm _ (hne)] at hP hD
  obtain ⟨u_2, hu_2, hF⟩ := zbd hF
  refine zcall_v (va_runV (As := [.ref (E.1 (13 + 11 * j))]) (rest := []) ⟨hx, hb, hml, hown, hts⟩ (qX4_takeFrom l D E KL kc on rw rd ft tr la mo 4 (show (4 : Nat) < 5 by decide) T j hj L (hne.symm) N _ _ hu_2) (cwV 1 hts (zgV k3_122 k3_123 k3_124 k0_6 k3_125) rfl rfl rfl (by decide +kernel) ⟨Nat.le_of_ble_eq_true rfl, Nat.le_of_ble_eq_true rfl⟩) (zpv hE hS hA hK hP hD hrv_1) rfl rfl hl.1 rfl (lv_room (Nat.le_of_ble_eq_true rfl)) dX2_fitAt_5 ⟨Nat.zero_le _, Nat.zero_le _⟩) hD hS hA (fun H locs hP hD hS => ?_)
  refine lv_iload_n hx hb dX2_fitAt_8 rfl (lv_at hl 2 rfl) ?_
  refine lv_istore_n (lv' := [(3, .int x2), (0, .ref (E.1 7)), (1, .ref (E.1 (13 + 11 * j))), (2, .int x2)]) hx hb dX2_fitAt_9 rfl hl (by decide) rfl (fun ls hl => ?_)
  refine lv_iconst (v := 0) hx hb dX2_fitAt_10 (by decide) ?_
  refine lv_istore (lv' := [(4, .int (0 : Int32)), (3, .int x2), (0, .ref (E.1 7)), (1, .ref (E.1 (13 + 11 * j))), (2, .int x2)]) hx hb dX2_fitAt_11 hl (by decide) rfl (fun ls hl => ?_)
  rw [zup_comm _ (hne.symm)] at hP hD
  obtain ⟨o_12, ho_12, hF⟩ := zbd hF
  have kx_1_0 : ∀ (T_13 : zLS), (Sum.inl T_13) = o_12 → ∀ (H : Heap) (locs : List Loc) (ls : Array Slot), va_P D vwCl (zW E KL kc on rw rd ft tr (va_up (va_up la j L) 4 T_13) mo) H → va_D A (zW E KL kc on rw rd ft tr (va_up (va_up la j L) 4 T_13) mo) → va_S A s.heap H locs → lv_has ls 5 [] → W p l e ({ frames := 6, cells := 0, slots := 0, locals := 136 } : Room) s m args below meth c H locs 0 0 Q (F0 m 49 ls []) := by
    intro T_13 ho H locs ls hP hD hS hl
    subst ho
    have hF := zinl hF
    refine lv_ldc (own := RX2) (v := -1000000) hx hb hown (zh hts k3_96) dX2_fitAt_49 ?_
    obtain rfl := Option.some.inj hF
    exact hend _ _ _ _ hP hD hS dX2_fitAt_51
  have kx_1_1 : ∀ (x4_15 : Int32) (T_16 : zLS), (Sum.inr (x4_15, T_16)) = o_12 → ∀ (H : Heap) (locs : List Loc) (ls : Array Slot), va_P D vwCl (zW E KL kc on rw rd ft tr (va_up (va_up la j L) 4 T_16) mo) H → va_D A (zW E KL kc on rw rd ft tr (va_up (va_up la j L) 4 T_16) mo) → va_S A s.heap H locs → lv_has ls 5 [(4, .int x4_15)] → W p l e ({ frames := 6, cells := 0, slots := 0, locals := 136 } : Room) s m args below meth c H locs 0 0 Q (F0 m 37 ls []) := by
    intro x4_15 T_16 ho H locs ls hP hD hS hl
    subst ho
    have hF := zinr hF
    refine lv_iload hx hb dX2_fitAt_37 (lv_at hl 0 rfl) ?_
    obtain rfl := Option.some.inj hF
    exact hend _ _ _ _ hP hD hS dX2_fitAt_39
  have lp_1 : ∀ (ft_5 : zOS) (L_6 : zLS) (n : Nat) (x3_3 : Int32) (x4_4 : Int32) (T_7 : zLS) (o : (Sum zLS (Int32 × zLS))), fX2_fitAt_l1 N KL kc ft_5 L_6 n x3_3 x4_4 T_7 = some o → (∀ (T_13 : zLS), (Sum.inl T_13) = o → ∀ (H : Heap) (locs : List Loc) (ls : Array Slot), va_P D vwCl (zW E KL kc on rw rd ft_5 tr (va_up (va_up la j L_6) 4 T_13) mo) H → va_D A (zW E KL kc on rw rd ft_5 tr (va_up (va_up la j L_6) 4 T_13) mo) → va_S A s.heap H locs → lv_has ls 5 [] → W p l e ({ frames := 6, cells := 0, slots := 0, locals := 136 } : Room) s m args below meth c H locs 0 0 Q (F0 m 49 ls [])) → (∀ (x4_15 : Int32) (T_16 : zLS), (Sum.inr (x4_15, T_16)) = o → ∀ (H : Heap) (locs : List Loc) (ls : Array Slot), va_P D vwCl (zW E KL kc on rw rd ft_5 tr (va_up (va_up la j L_6) 4 T_16) mo) H → va_D A (zW E KL kc on rw rd ft_5 tr (va_up (va_up la j L_6) 4 T_16) mo) → va_S A s.heap H locs → lv_has ls 5 [(4, .int x4_15)] → W p l e ({ frames := 6, cells := 0, slots := 0, locals := 136 } : Room) s m args below meth c H locs 0 0 Q (F0 m 37 ls [])) → ∀ (H : Heap) (locs : List Loc) (ls : Array Slot), va_P D vwCl (zW E KL kc on rw rd ft_5 tr (va_up (va_up la j L_6) 4 T_7) mo) H → va_D A (zW E KL kc on rw rd ft_5 tr (va_up (va_up la j L_6) 4 T_7) mo) → va_S A s.heap H locs → lv_has ls 5 [(0, .ref (E.1 7)), (1, .ref (E.1 (13 + 11 * j))), (3, .int x3_3), (4, .int x4_4)] → W p l e ({ frames := 6, cells := 0, slots := 0, locals := 136 } : Room) s m args below meth c H locs 0 0 Q (F0 m 13 ls []) := by
    intro ft_5 L_6 n
    induction n with
    | zero =>
      intro x3_3 x4_4 T_7 o hF
      exact znone hF
    | succ n ih =>
      intro x3_3 x4_4 T_7 o hF kx_1_0 kx_1_1 H locs ls hP hD hS hl
      rw [fX2_fitAt_l1] at hF
      refine lv_iload hx hb dX2_fitAt_13 (lv_at hl 3 rfl) ?_
      refine lv_iconst (v := 1) hx hb dX2_fitAt_15 (by decide) ?_
      refine lv_aload_n hx hb dX2_fitAt_16 rfl (lv_at hl 1 rfl) ?_
      rw [zup_comm _ (hne)] at hP hD
      refine va_get (D := D) (ci := 3) (v := .int (L_6.1.1 6)) (C := RX4) (T := TX4) (N := 19) hx hb hts (zi iX4) hown hK hP (13 + 11 * j) (zg_L _ _ _ _ _ _ _ _ _ _ hj _) rfl 6 (by decide) (zh hts k0_120) (fun _ h9 => h9) rfl dX2_fitAt_17 ?_
      refine lv_ishl hx hb dX2_fitAt_20 ?_
      refine lv_icmp_ge (tgt := 49) hx hb dX2_fitAt_21 (by decide) (fun c_8 => ?_) (fun c_8 => ?_)
      · have hF := zit c_8 hF
        rw [zup_comm _ (hne.symm)] at hP hD
        exact kx_1_0 T_7 (Option.some.inj hF) _ _ _ hP hD hS (lv_sub hl [] rfl)
      · have hF := zif c_8 hF
        refine lv_aload_n hx hb dX2_fitAt_24 rfl (lv_at hl 0 rfl) ?_
        refine lv_iload hx hb dX2_fitAt_25 (lv_at hl 3 rfl) ?_
        rw [zup_comm _ (hne.symm)] at hP hD
        obtain ⟨u_9, hu_9, hF⟩ := zbd hF
        refine zcall_i (va_runV (As := [.int x4_4]) (rest := []) ⟨hx, hb, hml, hown, hts⟩ (qX2_isFit l D E KL kc on rw rd ft_5 tr (va_up la j L_6) mo T_7 N _ x4_4 _ hu_9) (cwV 1 hts (zgV k3_127 k3_129 kp1_13 k0_5 k3_130) rfl rfl rfl (by decide +kernel) ⟨Nat.le_of_ble_eq_true rfl, Nat.le_of_ble_eq_true rfl⟩) (zpv hE hS hA hK hP hD (va_recv hK hP (ci := 2) (q0 := 7) rfl (zg_ft _ _ _ _ _ _ _ _ _ _))) rfl rfl hl.1 rfl (lv_room (Nat.le_of_ble_eq_true rfl)) dX2_fitAt_27 ⟨Nat.zero_le _, Nat.zero_le _⟩) hD hS hA (fun H locs hP hD hS => ?_)
        refine lv_if_eq (tgt := 43) hx hb dX2_fitAt_30 (by decide) (fun c_10 => ?_) (fun c_10 => ?_)
        · have hF := zit c_10 hF
          refine lv_iinc (v := x4_4 + (1 : Int32)) (lv' := [(4, .int (x4_4 + (1 : Int32))), (0, .ref (E.1 7)), (1, .ref (E.1 (13 + 11 * j))), (3, .int x3_3)]) hx hb dX2_fitAt_43 hl (k := 3) rfl rfl (by decide) rfl (fun ls hl => ?_)
          refine lv_goto (tgt := 13) hx hb dX2_fitAt_46 (by decide) ?_
          exact ih x3_3 (x4_4 + (1 : Int32)) u_9.2 _ hF kx_1_0 kx_1_1 _ _ _ hP hD hS (lv_sub hl [1, 2, 3, 0] rfl)
        · have hF := zif c_10 hF
          refine lv_iload_n hx hb dX2_fitAt_33 rfl (lv_at hl 2 rfl) ?_
          refine lv_if_ne (tgt := 40) hx hb dX2_fitAt_34 (by decide) (fun c_11 => ?_) (fun c_11 => ?_)
          · have hF := zif c_11 hF
            refine lv_iinc (v := x3_3 + (-1 : Int32)) (lv' := [(3, .int (x3_3 + (-1 : Int32))), (0, .ref (E.1 7)), (1, .ref (E.1 (13 + 11 * j))), (4, .int x4_4)]) hx hb dX2_fitAt_40 hl (k := 2) rfl rfl (by decide) rfl (fun ls hl => ?_)
            refine lv_iinc (v := x4_4 + (1 : Int32)) (lv' := [(4, .int (x4_4 + (1 : Int32))), (3, .int (x3_3 + (-1 : Int32))), (0, .ref (E.1 7)), (1, .ref (E.1 (13 + 11 * j)))]) hx hb dX2_fitAt_43 hl (k := 3) rfl rfl (by decide) rfl (fun ls hl => ?_)
            refine lv_goto (tgt := 13) hx hb dX2_fitAt_46 (by decide) ?_
            exact ih (x3_3 + (-1 : Int32)) (x4_4 + (1 : Int32)) u_9.2 _ hF kx_1_0 kx_1_1 _ _ _ hP hD hS (lv_sub hl [2, 3, 1, 0] rfl)
          · have hF := zit c_11 hF
            exact kx_1_1 x4_4 u_9.2 (Option.some.inj hF) _ _ _ hP hD hS (lv_sub hl [3] rfl)
  exact lp_1 ft L N x2 (0 : Int32) u_2 _ ho_12 kx_1_0 kx_1_1 _ _ _ hP hD hS (lv_sub hl [2, 3, 1, 0] rfl)
def fX2_earnedByLaw (N : Nat) (KL : List Nat) (kc : Nat → zKC) (L : zLS) (T : zLS) (x2 : Int32) : Option (Int32 × zLS) :=
  (fX4_takeFrom N KL kc T L).bind fun u_2 =>
  (fX4_begin N KL kc (zLi (zLi u_2 0 x2) 3 (0 : Int32))).bind fun u_4 =>
  (fX4_passYears N KL kc u_4 ((u_4.1.1 1) + (1 : Int32)) (1 : Int32)).bind fun u_6 =>
  (fX4_earnedByAll N u_6).bind fun u_8 =>
  some (u_8, u_6)
set_option maxHeartbeats 4000000 in
set_option maxRecDepth 100000 in
theorem qX2_earnedByLaw (l : Launch) (D : va_G) (E : zE) (KL : List Nat) (kc : Nat → zKC) (on : zNS) (rw rd ft tr : zOS) (la : Nat → zLS) (mo : zMS) (j : Nat) (hj : j < 5) (L : zLS) (T : zLS) (hne : j ≠ 4) (N sz : Nat) (x2 : Int32) (out : Int32 × zLS) (hF : fX2_earnedByLaw N KL kc L T x2 = some out) : zCi l yX2_earnedByLaw zwX2_earnedByLaw ({ frames := 6, cells := 0, slots := 0, locals := 138 }) [.ref (E.1 7), .ref (E.1 (13 + 11 * j)), .int x2] D E sz (zW E KL kc on rw rd ft tr (va_up (va_up la j L) 4 T) mo) (zW E KL kc on rw rd ft tr (va_up (va_up la j L) 4 out.2) mo) out.1 0 0 := by
  refine zent_i (cc := cX2_earnedByLaw) (nL := 3) (by decide) rfl (Nat.le_of_ble_eq_true rfl) ?_
  intro p e s m args below meth c Q A hx hb hml hown hts hA hK hP hD hS hE ls hl hend
  have hown : s.vm.findClass RX2 = some m.cls := hown
  have hl : lv_has ls 3 [(0, .ref (E.1 7)), (1, .ref (E.1 (13 + 11 * j))), (2, .int x2)] := hl
  rw [fX2_earnedByLaw] at hF
  refine lv_aload_n hx hb dX2_earnedByLaw_0 rfl (lv_at hl 0 rfl) ?_
  refine va_get (D := D) (ci := 2) (v := .ref (E.1 (13 + 11 * 4))) (C := RX2) (T := TX2) (N := 7) hx hb hts (zi iX2) hown hK hP 7 (zg_ft _ _ _ _ _ _ _ _ _ _) rfl 3 (by decide) (zh hts k0_181) (fun _ h9 => h9) rfl dX2_earnedByLaw_1 ?_
  refine lv_aload_n hx hb dX2_earnedByLaw_4 rfl (lv_at hl 1 rfl) ?_
  have hrv_1 := (va_recv hK hP (ci := 3) (q0 := 13 + 11 * 4) rfl (zg_L _ _ _ _ _ _ _ _ _ _ (show (4 : Nat) < 5 by decide) _))
  rw [zup_comm _ (hne)] at hP hD
  obtain ⟨u_2, hu_2, hF⟩ := zbd hF
  refine zcall_v (va_runV (As := [.ref (E.1 (13 + 11 * j))]) (rest := []) ⟨hx, hb, hml, hown, hts⟩ (qX4_takeFrom l D E KL kc on rw rd ft tr la mo 4 (show (4 : Nat) < 5 by decide) T j hj L (hne.symm) N _ _ hu_2) (cwV 1 hts (zgV k3_122 k3_123 k3_124 k0_6 k3_125) rfl rfl rfl (by decide +kernel) ⟨Nat.le_of_ble_eq_true rfl, Nat.le_of_ble_eq_true rfl⟩) (zpv hE hS hA hK hP hD hrv_1) rfl rfl hl.1 rfl (lv_room (Nat.le_of_ble_eq_true rfl)) dX2_earnedByLaw_5 ⟨Nat.zero_le _, Nat.zero_le _⟩) hD hS hA (fun H locs hP hD hS => ?_)
  refine lv_aload_n hx hb dX2_earnedByLaw_8 rfl (lv_at hl 0 rfl) ?_
  refine va_get (D := D) (ci := 2) (v := .ref (E.1 (13 + 11 * 4))) (C := RX2) (T := TX2) (N := 7) hx hb hts (zi iX2) hown hK hP 7 (zg_ft _ _ _ _ _ _ _ _ _ _) rfl 3 (by decide) (zh hts k0_181) (fun _ h9 => h9) rfl dX2_earnedByLaw_9 ?_
  refine lv_iload_n hx hb dX2_earnedByLaw_12 rfl (lv_at hl 2 rfl) ?_
  rw [zup_comm _ (hne.symm)] at hP hD
  refine va_put (D := D) (ci := 3) (v := .int x2) (ty := .int) (C := RX4) (T := TX4) (N := 19) hx hb hts (zi iX4) tyX4 tyX4_ok nmX4 hown hK hP hD hS (13 + 11 * 4) (zg_L _ _ _ _ _ _ _ _ _ _ (show (4 : Nat) < 5 by decide) _) rfl 0 (by decide) (zh hts k0_100) (fun _ h9 => h9) rfl (by decide +kernel) rfl rfl (Nat.le_of_ble_eq_true rfl) dX2_earnedByLaw_13 (fun H locs hP hD hS => ?_)
  rw [zs_L_0 _ _ _ _ _ _ _ _ _ _ (show (4 : Nat) < 5 by decide)] at hP hD
  refine lv_aload_n hx hb dX2_earnedByLaw_16 rfl (lv_at hl 0 rfl) ?_
  refine va_get (D := D) (ci := 2) (v := .ref (E.1 (13 + 11 * 4))) (C := RX2) (T := TX2) (N := 7) hx hb hts (zi iX2) hown hK hP 7 (zg_ft _ _ _ _ _ _ _ _ _ _) rfl 3 (by decide) (zh hts k0_181) (fun _ h9 => h9) rfl dX2_earnedByLaw_17 ?_
  refine lv_iconst (v := 0) hx hb dX2_earnedByLaw_20 (by decide) ?_
  refine va_put (D := D) (ci := 3) (v := .int (0 : Int32)) (ty := .int) (C := RX4) (T := TX4) (N := 19) hx hb hts (zi iX4) tyX4 tyX4_ok nmX4 hown hK hP hD hS (13 + 11 * 4) (zg_L _ _ _ _ _ _ _ _ _ _ (show (4 : Nat) < 5 by decide) _) rfl 3 (by decide) (zh hts k0_108) (fun _ h9 => h9) rfl (by decide +kernel) rfl rfl (Nat.le_of_ble_eq_true rfl) dX2_earnedByLaw_21 (fun H locs hP hD hS => ?_)
  rw [zs_L_3 _ _ _ _ _ _ _ _ _ _ (show (4 : Nat) < 5 by decide)] at hP hD
  refine lv_aload_n hx hb dX2_earnedByLaw_24 rfl (lv_at hl 0 rfl) ?_
  refine va_get (D := D) (ci := 2) (v := .ref (E.1 (13 + 11 * 4))) (C := RX2) (T := TX2) (N := 7) hx hb hts (zi iX2) hown hK hP 7 (zg_ft _ _ _ _ _ _ _ _ _ _) rfl 3 (by decide) (zh hts k0_181) (fun _ h9 => h9) rfl dX2_earnedByLaw_25 ?_
  have hrv_3 := (va_recv hK hP (ci := 3) (q0 := 13 + 11 * 4) rfl (zg_L _ _ _ _ _ _ _ _ _ _ (show (4 : Nat) < 5 by decide) _))
  obtain ⟨u_4, hu_4, hF⟩ := zbd hF
  refine zcall_v (va_runV (As := []) (rest := []) ⟨hx, hb, hml, hown, hts⟩ (qX4_begin l D E KL kc on rw rd ft tr (va_up la j L) mo 4 (show (4 : Nat) < 5 by decide) (zLi (zLi u_2 0 x2) 3 (0 : Int32)) N _ _ hu_4) (cwV 0 hts (zgV k3_154 k2_78 k2_79 k0_6 k2_80) rfl rfl rfl (by decide +kernel) ⟨Nat.le_of_ble_eq_true rfl, Nat.le_of_ble_eq_true rfl⟩) (zpv hE hS hA hK hP hD hrv_3) rfl rfl hl.1 rfl (lv_room (Nat.le_of_ble_eq_true rfl)) dX2_earnedByLaw_28 ⟨Nat.zero_le _, Nat.zero_le _⟩) hD hS hA (fun H locs hP hD hS => ?_)
  refine lv_aload_n hx hb dX2_earnedByLaw_31 rfl (lv_at hl 0 rfl) ?_
  refine va_get (D := D) (ci := 2) (v := .ref (E.1 (13 + 11 * 4))) (C := RX2) (T := TX2) (N := 7) hx hb hts (zi iX2) hown hK hP 7 (zg_ft _ _ _ _ _ _ _ _ _ _) rfl 3 (by decide) (zh hts k0_181) (fun _ h9 => h9) rfl dX2_earnedByLaw_32 ?_
  refine lv_aload_n hx hb dX2_earnedByLaw_35 rfl (lv_at hl 0 rfl) ?_
  refine va_get (D := D) (ci := 2) (v := .ref (E.1 (13 + 11 * 4))) (C := RX2) (T := TX2) (N := 7) hx hb hts (zi iX2) hown hK hP 7 (zg_ft _ _ _ _ _ _ _ _ _ _) rfl 3 (by decide) (zh hts k0_181) (fun _ h9 => h9) rfl dX2_earnedByLaw_36 ?_
  refine va_get (D := D) (ci := 3) (v := .int (u_4.1.1 1)) (C := RX4) (T := TX4) (N := 19) hx hb hts (zi iX4) hown hK hP (13 + 11 * 4) (zg_L _ _ _ _ _ _ _ _ _ _ (show (4 : Nat) < 5 by decide) _) rfl 1 (by decide) (zh hts k0_102) (fun _ h9 => h9) rfl dX2_earnedByLaw_39 ?_
  refine lv_iconst (v := 1) hx hb dX2_earnedByLaw_42 (by decide) ?_
  refine lv_iadd hx hb dX2_earnedByLaw_43 ?_
  refine lv_iconst (v := 1) hx hb dX2_earnedByLaw_44 (by decide) ?_
  have hrv_5 := (va_recv hK hP (ci := 3) (q0 := 13 + 11 * 4) rfl (zg_L _ _ _ _ _ _ _ _ _ _ (show (4 : Nat) < 5 by decide) _))
  obtain ⟨u_6, hu_6, hF⟩ := zbd hF
  refine zcall_v (va_runV (As := [.int ((u_4.1.1 1) + (1 : Int32)), .int (1 : Int32)]) (rest := []) ⟨hx, hb, hml, hown, hts⟩ (qX4_passYears l D E KL kc on rw rd ft tr (va_up la j L) mo 4 (show (4 : Nat) < 5 by decide) u_4 N _ ((u_4.1.1 1) + (1 : Int32)) (1 : Int32) _ hu_6) (cwV 2 hts (zgV k3_155 k2_122 k2_123 k0_6 k2_124) rfl rfl rfl (by decide +kernel) ⟨Nat.le_of_ble_eq_true rfl, Nat.le_of_ble_eq_true rfl⟩) (zpv hE hS hA hK hP hD hrv_5) rfl rfl hl.1 rfl (lv_room (Nat.le_of_ble_eq_true rfl)) dX2_earnedByLaw_45 ⟨Nat.zero_le _, Nat.zero_le _⟩) hD hS hA (fun H locs hP hD hS => ?_)
  refine lv_aload_n hx hb dX2_earnedByLaw_48 rfl (lv_at hl 0 rfl) ?_
  refine va_get (D := D) (ci := 2) (v := .ref (E.1 (13 + 11 * 4))) (C := RX2) (T := TX2) (N := 7) hx hb hts (zi iX2) hown hK hP 7 (zg_ft _ _ _ _ _ _ _ _ _ _) rfl 3 (by decide) (zh hts k0_181) (fun _ h9 => h9) rfl dX2_earnedByLaw_49 ?_
  have hrv_7 := (va_recv hK hP (ci := 3) (q0 := 13 + 11 * 4) rfl (zg_L _ _ _ _ _ _ _ _ _ _ (show (4 : Nat) < 5 by decide) _))
  obtain ⟨u_8, hu_8, hF⟩ := zbd hF
  refine zcall_i (va_runV (As := []) (rest := []) ⟨hx, hb, hml, hown, hts⟩ (qX4_earnedByAll l D E KL kc on rw rd ft tr (va_up la j L) mo 4 (show (4 : Nat) < 5 by decide) u_6 N _ _ hu_8) (cwV 0 hts (zgV k3_156 k3_157 k3_158 k0_6 k3_159) rfl rfl rfl (by decide +kernel) ⟨Nat.le_of_ble_eq_true rfl, Nat.le_of_ble_eq_true rfl⟩) (zpv hE hS hA hK hP hD hrv_7) rfl rfl hl.1 rfl (lv_room (Nat.le_of_ble_eq_true rfl)) dX2_earnedByLaw_52 ⟨Nat.zero_le _, Nat.zero_le _⟩) hD hS hA (fun H locs hP hD hS => ?_)
  obtain rfl := Option.some.inj hF
  exact hend _ _ _ _ hP hD hS dX2_earnedByLaw_55
