def fX7_isRow (N : Nat) (x0 : Int32) : Option Int32 :=
  if x0 < 0 then
    some (0 : Int32)
  else
    if (8 : Int32) ≤ x0 then
      some (0 : Int32)
    else
      some (1 : Int32)
set_option maxHeartbeats 4000000 in
set_option maxRecDepth 100000 in
theorem qX7_isRow (l : Launch) (D : va_G) (E : zE) (KL : List Nat) (kc : Nat → zKC) (on : zNS) (rw rd ft tr : zOS) (la : Nat → zLS) (mo : zMS) (N sz : Nat) (x0 : Int32) (out : Int32) (hF : fX7_isRow N x0 = some out) : zCi l yX7_isRow zwX7_isRow ({ frames := 0, cells := 0, slots := 0, locals := 0 }) [.int x0] D E sz (zW E KL kc on rw rd ft tr la mo) (zW E KL kc on rw rd ft tr la mo) out 0 0 := by
  refine zent_z (cc := cX7_isRow) (nL := 1) (by decide) rfl (Nat.le_of_ble_eq_true rfl) ?_
  intro p e s m args below meth c Q A hx hb hml hown hts hA hK hP hD hS hE ls hl hend
  have hown : s.vm.findClass RX7 = some m.cls := hown
  have hl : lv_has ls 1 [(0, .int x0)] := hl
  rw [fX7_isRow] at hF
  refine lv_iload_n hx hb dX7_isRow_0 rfl (lv_at hl 0 rfl) ?_
  refine lv_if_lt (tgt := 14) hx hb dX7_isRow_1 (by decide) (fun c_1 => ?_) (fun c_1 => ?_)
  · have hF := zit c_1 hF
    refine lv_iconst (v := 0) hx hb dX7_isRow_14 (by decide) ?_
    obtain rfl := Option.some.inj hF
    exact hend _ _ _ _ znar0 hP hD hS dX7_isRow_15
  · have hF := zif c_1 hF
    refine lv_iload_n hx hb dX7_isRow_4 rfl (lv_at hl 0 rfl) ?_
    refine lv_bipush (v := 8) hx hb dX7_isRow_5 (by decide) ?_
    refine lv_icmp_ge (tgt := 14) hx hb dX7_isRow_7 (by decide) (fun c_2 => ?_) (fun c_2 => ?_)
    · have hF := zit c_2 hF
      refine lv_iconst (v := 0) hx hb dX7_isRow_14 (by decide) ?_
      obtain rfl := Option.some.inj hF
      exact hend _ _ _ _ znar0 hP hD hS dX7_isRow_15
    · have hF := zif c_2 hF
      refine lv_iconst (v := 1) hx hb dX7_isRow_10 (by decide) ?_
      refine lv_goto (tgt := 15) hx hb dX7_isRow_11 (by decide) ?_
      obtain rfl := Option.some.inj hF
      exact hend _ _ _ _ znar1 hP hD hS dX7_isRow_15
def fX7_isMissing (N : Nat) (rw : zOS) (x1 : Int32) : Option Int32 :=
  (fX7_isRow N x1).bind fun u_1 =>
  if u_1 = 0 then
    some (1 : Int32)
  else
    if x1 < 0 ∨ 8 ≤ x1.toNatClampNeg then none else
    if (rw.2 0 x1.toNatClampNeg) = (-1 : Int32) then
      some (1 : Int32)
    else
      some (0 : Int32)
set_option maxHeartbeats 4000000 in
set_option maxRecDepth 100000 in
theorem qX7_isMissing (l : Launch) (D : va_G) (E : zE) (KL : List Nat) (kc : Nat → zKC) (on : zNS) (rw rd ft tr : zOS) (la : Nat → zLS) (mo : zMS) (N sz : Nat) (x1 : Int32) (out : Int32) (hF : fX7_isMissing N rw x1 = some out) : zCi l yX7_isMissing zwX7_isMissing ({ frames := 1, cells := 0, slots := 0, locals := 20 }) [.ref (E.1 1), .int x1] D E sz (zW E KL kc on rw rd ft tr la mo) (zW E KL kc on rw rd ft tr la mo) out 0 0 := by
  refine zent_z (cc := cX7_isMissing) (nL := 2) (by decide) rfl (Nat.le_of_ble_eq_true rfl) ?_
  intro p e s m args below meth c Q A hx hb hml hown hts hA hK hP hD hS hE ls hl hend
  have hown : s.vm.findClass RX7 = some m.cls := hown
  have hl : lv_has ls 2 [(0, .ref (E.1 1)), (1, .int x1)] := hl
  rw [fX7_isMissing] at hF
  refine lv_iload_n hx hb dX7_isMissing_0 rfl (lv_at hl 1 rfl) ?_
  obtain ⟨u_1, hu_1, hF⟩ := zbd hF
  refine zcall_i (va_runS (As := [.int x1]) (rest := []) ⟨hx, hb, hml, hown, hts⟩ (qX7_isRow l D E KL kc on rw rd ft tr la mo N _ x1 _ hu_1) (va_cwS 1 hts (zgS k1_23 k1_8 k0_2 k1_9) rfl rfl rfl (by decide +kernel) ⟨Nat.le_of_ble_eq_true rfl, Nat.le_of_ble_eq_true rfl⟩) (zps hE hS hA hK hP hD) rfl rfl hl.1 rfl (lv_room (Nat.le_of_ble_eq_true rfl)) dX7_isMissing_1 ⟨Nat.zero_le _, Nat.zero_le _⟩) hD hS hA (fun H locs hP hD hS => ?_)
  refine lv_if_eq (tgt := 17) hx hb dX7_isMissing_4 (by decide) (fun c_2 => ?_) (fun c_2 => ?_)
  · have hF := zit c_2 hF
    refine lv_iconst (v := 1) hx hb dX7_isMissing_17 (by decide) ?_
    refine lv_goto (tgt := 22) hx hb dX7_isMissing_18 (by decide) ?_
    obtain rfl := Option.some.inj hF
    exact hend _ _ _ _ znar1 hP hD hS dX7_isMissing_22
  · have hF := zif c_2 hF
    refine lv_aload_n hx hb dX7_isMissing_7 rfl (lv_at hl 0 rfl) ?_
    refine va_get (D := D) (ci := 6) (v := .ref (E.1 2)) (C := RX7) (T := TX7) (N := 3) hx hb hts (zi iX7) hown hK hP 1 (zg_rw _ _ _ _ _ _ _ _ _ _) rfl 0 (by decide) (zh hts k0_38) (fun _ h9 => h9) rfl dX7_isMissing_8 ?_
    refine lv_iload_n hx hb dX7_isMissing_11 rfl (lv_at hl 1 rfl) ?_
    obtain ⟨g_3, hF⟩ := zgd hF
    refine ziald (v := rw.2 0 x1.toNatClampNeg) hx hb hK hP 2 1 (zg_rw_0 _ _ _ _ _ _ _ _ _ _) rfl g_3 rfl dX7_isMissing_12 ?_
    refine lv_iconst (v := -1) hx hb dX7_isMissing_13 (by decide) ?_
    refine lv_icmp_ne (tgt := 21) hx hb dX7_isMissing_14 (by decide) (fun c_4 => ?_) (fun c_4 => ?_)
    · have hF := zif c_4 hF
      refine lv_iconst (v := 0) hx hb dX7_isMissing_21 (by decide) ?_
      obtain rfl := Option.some.inj hF
      exact hend _ _ _ _ znar0 hP hD hS dX7_isMissing_22
    · have hF := zit c_4 hF
      refine lv_iconst (v := 1) hx hb dX7_isMissing_17 (by decide) ?_
      refine lv_goto (tgt := 22) hx hb dX7_isMissing_18 (by decide) ?_
      obtain rfl := Option.some.inj hF
      exact hend _ _ _ _ znar1 hP hD hS dX7_isMissing_22
def fX7_countThere_l1 (N : Nat) (rw_3 : zOS) : Nat → Int32 → Int32 → Option Int32
  | 0, _, _ => none
  | n + 1, x1_1, x2_2 =>
    if (8 : Int32) ≤ x2_2 then
      some x1_1
    else
      if x2_2 < 0 ∨ 8 ≤ x2_2.toNatClampNeg then none else
      if (rw_3.2 0 x2_2.toNatClampNeg) = (-1 : Int32) then
        fX7_countThere_l1 N rw_3 n x1_1 (x2_2 + (1 : Int32))
      else
        fX7_countThere_l1 N rw_3 n (x1_1 + (1 : Int32)) (x2_2 + (1 : Int32))
def fX7_countThere (N : Nat) (rw : zOS) : Option Int32 :=
  (fX7_countThere_l1 N rw N (0 : Int32) (0 : Int32)).bind (fun u_9 =>
    some u_9)
set_option maxHeartbeats 4000000 in
set_option maxRecDepth 100000 in
theorem qX7_countThere (l : Launch) (D : va_G) (E : zE) (KL : List Nat) (kc : Nat → zKC) (on : zNS) (rw rd ft tr : zOS) (la : Nat → zLS) (mo : zMS) (N sz : Nat)  (out : Int32) (hF : fX7_countThere N rw = some out) : zCi l yX7_countThere zwX7_countThere ({ frames := 0, cells := 0, slots := 0, locals := 0 }) [.ref (E.1 1)] D E sz (zW E KL kc on rw rd ft tr la mo) (zW E KL kc on rw rd ft tr la mo) out 0 0 := by
  refine zent_i (cc := cX7_countThere) (nL := 3) (by decide) rfl (Nat.le_of_ble_eq_true rfl) ?_
  intro p e s m args below meth c Q A hx hb hml hown hts hA hK hP hD hS hE ls hl hend
  have hown : s.vm.findClass RX7 = some m.cls := hown
  have hl : lv_has ls 3 [(0, .ref (E.1 1))] := hl
  rw [fX7_countThere] at hF
  refine lv_iconst (v := 0) hx hb dX7_countThere_0 (by decide) ?_
  refine lv_istore_n (lv' := [(1, .int (0 : Int32)), (0, .ref (E.1 1))]) hx hb dX7_countThere_1 rfl hl (by decide) rfl (fun ls hl => ?_)
  refine lv_iconst (v := 0) hx hb dX7_countThere_2 (by decide) ?_
  refine lv_istore_n (lv' := [(2, .int (0 : Int32)), (1, .int (0 : Int32)), (0, .ref (E.1 1))]) hx hb dX7_countThere_3 rfl hl (by decide) rfl (fun ls hl => ?_)
  obtain ⟨o_7, ho_7, hF⟩ := zbd hF
  have kx_1_0 : ∀ (x1_8 : Int32), x1_8 = o_7 → ∀ (H : Heap) (locs : List Loc) (ls : Array Slot), va_P D vwCl (zW E KL kc on rw rd ft tr la mo) H → va_D A (zW E KL kc on rw rd ft tr la mo) → va_S A s.heap H locs → lv_has ls 3 [(1, .int x1_8)] → W p l e ({ frames := 0, cells := 0, slots := 0, locals := 0 } : Room) s m args below meth c H locs 0 0 Q (F0 m 29 ls []) := by
    intro x1_8 ho H locs ls hP hD hS hl
    subst ho
    refine lv_iload_n hx hb dX7_countThere_29 rfl (lv_at hl 0 rfl) ?_
    obtain rfl := Option.some.inj hF
    exact hend _ _ _ _ hP hD hS dX7_countThere_30
  have lp_1 : ∀ (rw_3 : zOS) (n : Nat) (x1_1 : Int32) (x2_2 : Int32) (o : Int32), fX7_countThere_l1 N rw_3 n x1_1 x2_2 = some o → (∀ (x1_8 : Int32), x1_8 = o → ∀ (H : Heap) (locs : List Loc) (ls : Array Slot), va_P D vwCl (zW E KL kc on rw_3 rd ft tr la mo) H → va_D A (zW E KL kc on rw_3 rd ft tr la mo) → va_S A s.heap H locs → lv_has ls 3 [(1, .int x1_8)] → W p l e ({ frames := 0, cells := 0, slots := 0, locals := 0 } : Room) s m args below meth c H locs 0 0 Q (F0 m 29 ls [])) → ∀ (H : Heap) (locs : List Loc) (ls : Array Slot), va_P D vwCl (zW E KL kc on rw_3 rd ft tr la mo) H → va_D A (zW E KL kc on rw_3 rd ft tr la mo) → va_S A s.heap H locs → lv_has ls 3 [(0, .ref (E.1 1)), (1, .int x1_1), (2, .int x2_2)] → W p l e ({ frames := 0, cells := 0, slots := 0, locals := 0 } : Room) s m args below meth c H locs 0 0 Q (F0 m 4 ls []) := by
    intro rw_3 n
    induction n with
    | zero =>
      intro x1_1 x2_2 o hF
      exact znone hF
    | succ n ih =>
      intro x1_1 x2_2 o hF kx_1_0 H locs ls hP hD hS hl
      rw [fX7_countThere_l1] at hF
      refine lv_iload_n hx hb dX7_countThere_4 rfl (lv_at hl 2 rfl) ?_
      refine lv_bipush (v := 8) hx hb dX7_countThere_5 (by decide) ?_
      refine lv_icmp_ge (tgt := 29) hx hb dX7_countThere_7 (by decide) (fun c_4 => ?_) (fun c_4 => ?_)
      · have hF := zit c_4 hF
        exact kx_1_0 x1_1 (Option.some.inj hF) _ _ _ hP hD hS (lv_sub hl [1] rfl)
      · have hF := zif c_4 hF
        refine lv_aload_n hx hb dX7_countThere_10 rfl (lv_at hl 0 rfl) ?_
        refine va_get (D := D) (ci := 6) (v := .ref (E.1 2)) (C := RX7) (T := TX7) (N := 3) hx hb hts (zi iX7) hown hK hP 1 (zg_rw _ _ _ _ _ _ _ _ _ _) rfl 0 (by decide) (zh hts k0_38) (fun _ h9 => h9) rfl dX7_countThere_11 ?_
        refine lv_iload_n hx hb dX7_countThere_14 rfl (lv_at hl 2 rfl) ?_
        obtain ⟨g_5, hF⟩ := zgd hF
        refine ziald (v := rw_3.2 0 x2_2.toNatClampNeg) hx hb hK hP 2 1 (zg_rw_0 _ _ _ _ _ _ _ _ _ _) rfl g_5 rfl dX7_countThere_15 ?_
        refine lv_iconst (v := -1) hx hb dX7_countThere_16 (by decide) ?_
        refine lv_icmp_eq (tgt := 23) hx hb dX7_countThere_17 (by decide) (fun c_6 => ?_) (fun c_6 => ?_)
        · have hF := zit c_6 hF
          refine lv_iinc (v := x2_2 + (1 : Int32)) (lv' := [(2, .int (x2_2 + (1 : Int32))), (0, .ref (E.1 1)), (1, .int x1_1)]) hx hb dX7_countThere_23 hl (k := 2) rfl rfl (by decide) rfl (fun ls hl => ?_)
          refine lv_goto (tgt := 4) hx hb dX7_countThere_26 (by decide) ?_
          exact ih x1_1 (x2_2 + (1 : Int32)) _ hF kx_1_0 _ _ _ hP hD hS (lv_sub hl [1, 2, 0] rfl)
        · have hF := zif c_6 hF
          refine lv_iinc (v := x1_1 + (1 : Int32)) (lv' := [(1, .int (x1_1 + (1 : Int32))), (0, .ref (E.1 1)), (2, .int x2_2)]) hx hb dX7_countThere_20 hl (k := 1) rfl rfl (by decide) rfl (fun ls hl => ?_)
          refine lv_iinc (v := x2_2 + (1 : Int32)) (lv' := [(2, .int (x2_2 + (1 : Int32))), (1, .int (x1_1 + (1 : Int32))), (0, .ref (E.1 1))]) hx hb dX7_countThere_23 hl (k := 2) rfl rfl (by decide) rfl (fun ls hl => ?_)
          refine lv_goto (tgt := 4) hx hb dX7_countThere_26 (by decide) ?_
          exact ih (x1_1 + (1 : Int32)) (x2_2 + (1 : Int32)) _ hF kx_1_0 _ _ _ hP hD hS (lv_sub hl [2, 1, 0] rfl)
  exact lp_1 rw N (0 : Int32) (0 : Int32) _ ho_7 kx_1_0 _ _ _ hP hD hS (lv_sub hl [2, 1, 0] rfl)
def fX7_lay (N : Nat) (rw : zOS) (x1 : Int32) (x2 : Int32) (x3 : Int32) : Option zOS :=
  (fX7_isRow N x1).bind fun u_1 =>
  if u_1 = 0 then
    some rw
  else
    if x3 < 0 then
      some rw
    else
      if x3 ≤ (40 : Int32) then
        if x1 < 0 ∨ 8 ≤ x1.toNatClampNeg then none else
        if x1 < 0 ∨ 8 ≤ x1.toNatClampNeg then none else
        if ¬ (0 ≤ (x1 * (40 : Int32)) ∧ (x1 * (40 : Int32)) ≤ ((x1 * (40 : Int32)) + x3) ∧ ((x1 * (40 : Int32)) + x3) ≤ 320) then none else
        some (zpA (zpA (zpA rw 0 (upd (rw.2 0) x1.toNatClampNeg x2)) 1 (upd (rw.2 1) x1.toNatClampNeg x3)) 2 (zfl (rw.2 2) ((x1 * (40 : Int32)).toNatClampNeg) (((x1 * (40 : Int32)) + x3).toNatClampNeg) (0 : Int32)))
      else
        some rw
set_option maxHeartbeats 4000000 in
set_option maxRecDepth 100000 in
theorem qX7_lay (l : Launch) (D : va_G) (E : zE) (KL : List Nat) (kc : Nat → zKC) (on : zNS) (rw rd ft tr : zOS) (la : Nat → zLS) (mo : zMS) (N sz : Nat) (x1 : Int32) (x2 : Int32) (x3 : Int32) (out : zOS) (hF : fX7_lay N rw x1 x2 x3 = some out) : zCv l yX7_lay zwX7_lay ({ frames := 2, cells := 0, slots := 0, locals := 46 }) [.ref (E.1 1), .int x1, .int x2, .int x3] D E sz (zW E KL kc on rw rd ft tr la mo) (zW E KL kc on out rd ft tr la mo) 0 0 := by
  refine zent_v (cc := cX7_lay) (nL := 4) (by decide) rfl (Nat.le_of_ble_eq_true rfl) ?_
  intro p e s m args below meth c Q A hx hb hml hown hts hA hK hP hD hS hE ls hl hend
  have hown : s.vm.findClass RX7 = some m.cls := hown
  have hl : lv_has ls 4 [(0, .ref (E.1 1)), (1, .int x1), (2, .int x2), (3, .int x3)] := hl
  rw [fX7_lay] at hF
  refine lv_iload_n hx hb dX7_lay_0 rfl (lv_at hl 1 rfl) ?_
  obtain ⟨u_1, hu_1, hF⟩ := zbd hF
  refine zcall_i (va_runS (As := [.int x1]) (rest := []) ⟨hx, hb, hml, hown, hts⟩ (qX7_isRow l D E KL kc on rw rd ft tr la mo N _ x1 _ hu_1) (va_cwS 1 hts (zgS k1_23 k1_8 k0_2 k1_9) rfl rfl rfl (by decide +kernel) ⟨Nat.le_of_ble_eq_true rfl, Nat.le_of_ble_eq_true rfl⟩) (zps hE hS hA hK hP hD) rfl rfl hl.1 rfl (lv_room (Nat.le_of_ble_eq_true rfl)) dX7_lay_1 ⟨Nat.zero_le _, Nat.zero_le _⟩) hD hS hA (fun H locs hP hD hS => ?_)
  refine lv_if_eq (tgt := 17) hx hb dX7_lay_4 (by decide) (fun c_2 => ?_) (fun c_2 => ?_)
  · have hF := zit c_2 hF
    obtain rfl := Option.some.inj hF
    exact hend _ _ _ _ hP hD hS dX7_lay_17
  · have hF := zif c_2 hF
    refine lv_iload_n hx hb dX7_lay_7 rfl (lv_at hl 3 rfl) ?_
    refine lv_if_lt (tgt := 17) hx hb dX7_lay_8 (by decide) (fun c_3 => ?_) (fun c_3 => ?_)
    · have hF := zit c_3 hF
      obtain rfl := Option.some.inj hF
      exact hend _ _ _ _ hP hD hS dX7_lay_17
    · have hF := zif c_3 hF
      refine lv_iload_n hx hb dX7_lay_11 rfl (lv_at hl 3 rfl) ?_
      refine lv_bipush (v := 40) hx hb dX7_lay_12 (by decide) ?_
      refine lv_icmp_le (tgt := 18) hx hb dX7_lay_14 (by decide) (fun c_4 => ?_) (fun c_4 => ?_)
      · have hF := zit c_4 hF
        refine lv_aload_n hx hb dX7_lay_18 rfl (lv_at hl 0 rfl) ?_
        refine va_get (D := D) (ci := 6) (v := .ref (E.1 2)) (C := RX7) (T := TX7) (N := 3) hx hb hts (zi iX7) hown hK hP 1 (zg_rw _ _ _ _ _ _ _ _ _ _) rfl 0 (by decide) (zh hts k0_38) (fun _ h9 => h9) rfl dX7_lay_19 ?_
        refine lv_iload_n hx hb dX7_lay_22 rfl (lv_at hl 1 rfl) ?_
        refine lv_iload_n hx hb dX7_lay_23 rfl (lv_at hl 2 rfl) ?_
        obtain ⟨g_5, hF⟩ := zgd hF
        refine va_iast hx hb hK hP hD hS 2 1 (zg_rw_0 _ _ _ _ _ _ _ _ _ _) rfl g_5 dX7_lay_24 (fun H locs hP hD hS => ?_)
        rw [zs_rw_0] at hP hD
        have hP : va_P D vwCl (zW E KL kc on (zpA rw 0 (upd (rw.2 0) x1.toNatClampNeg x2)) rd ft tr la mo) H := hP
        have hD : va_D A (zW E KL kc on (zpA rw 0 (upd (rw.2 0) x1.toNatClampNeg x2)) rd ft tr la mo) := hD
        refine lv_aload_n hx hb dX7_lay_25 rfl (lv_at hl 0 rfl) ?_
        refine va_get (D := D) (ci := 6) (v := .ref (E.1 3)) (C := RX7) (T := TX7) (N := 3) hx hb hts (zi iX7) hown hK hP 1 (zg_rw _ _ _ _ _ _ _ _ _ _) rfl 1 (by decide) (zh hts k0_39) (fun _ h9 => h9) rfl dX7_lay_26 ?_
        refine lv_iload_n hx hb dX7_lay_29 rfl (lv_at hl 1 rfl) ?_
        refine lv_iload_n hx hb dX7_lay_30 rfl (lv_at hl 3 rfl) ?_
        obtain ⟨g_6, hF⟩ := zgd hF
        refine va_iast hx hb hK hP hD hS 3 1 (zg_rw_1 _ _ _ _ _ _ _ _ _ _) rfl g_6 dX7_lay_31 (fun H locs hP hD hS => ?_)
        rw [zs_rw_1] at hP hD
        have hP : va_P D vwCl (zW E KL kc on (zpA (zpA rw 0 (upd (rw.2 0) x1.toNatClampNeg x2)) 1 (upd (rw.2 1) x1.toNatClampNeg x3)) rd ft tr la mo) H := hP
        have hD : va_D A (zW E KL kc on (zpA (zpA rw 0 (upd (rw.2 0) x1.toNatClampNeg x2)) 1 (upd (rw.2 1) x1.toNatClampNeg x3)) rd ft tr la mo) := hD
        refine lv_aload_n hx hb dX7_lay_32 rfl (lv_at hl 0 rfl) ?_
        refine va_get (D := D) (ci := 6) (v := .ref (E.1 4)) (C := RX7) (T := TX7) (N := 3) hx hb hts (zi iX7) hown hK hP 1 (zg_rw _ _ _ _ _ _ _ _ _ _) rfl 2 (by decide) (zh hts k0_40) (fun _ h9 => h9) rfl dX7_lay_33 ?_
        refine lv_iload_n hx hb dX7_lay_36 rfl (lv_at hl 1 rfl) ?_
        refine lv_bipush (v := 40) hx hb dX7_lay_37 (by decide) ?_
        refine lv_imul hx hb dX7_lay_39 ?_
        refine lv_iload_n hx hb dX7_lay_40 rfl (lv_at hl 1 rfl) ?_
        refine lv_bipush (v := 40) hx hb dX7_lay_41 (by decide) ?_
        refine lv_imul hx hb dX7_lay_43 ?_
        refine lv_iload_n hx hb dX7_lay_44 rfl (lv_at hl 3 rfl) ?_
        refine lv_iadd hx hb dX7_lay_45 ?_
        refine lv_iconst (v := 0) hx hb dX7_lay_46 (by decide) ?_
        obtain ⟨g_7, hF⟩ := zgd hF
        refine zcall_v (va_runS (As := [.ref (E.1 4), .int (x1 * (40 : Int32)), .int ((x1 * (40 : Int32)) + x3), .int (0 : Int32)]) (rest := []) ⟨hx, hb, hml, hown, hts⟩ (zfill4 l D E _ 4 (zg_rw_2 _ _ _ _ _ _ _ _ _ _) _ (by decide) (x1 * (40 : Int32)) ((x1 * (40 : Int32)) + x3) (0 : Int32) (Decidable.not_not.mp g_7)) (va_cwS 4 hts (zgS k1_24 k1_25 k0_3 k1_26) rfl rfl rfl (by decide +kernel) ⟨Nat.le_of_ble_eq_true rfl, Nat.le_of_ble_eq_true rfl⟩) (zps hE hS hA hK hP hD) rfl rfl hl.1 rfl (lv_room (Nat.le_of_ble_eq_true rfl)) dX7_lay_47 ⟨Nat.zero_le _, Nat.zero_le _⟩) hD hS hA (fun H locs hP hD hS => ?_)
        rw [zs_rw_2] at hP hD
        have hP : va_P D vwCl (zW E KL kc on (zpA (zpA (zpA rw 0 (upd (rw.2 0) x1.toNatClampNeg x2)) 1 (upd (rw.2 1) x1.toNatClampNeg x3)) 2 (zfl (rw.2 2) ((x1 * (40 : Int32)).toNatClampNeg) (((x1 * (40 : Int32)) + x3).toNatClampNeg) (0 : Int32))) rd ft tr la mo) H := hP
        have hD : va_D A (zW E KL kc on (zpA (zpA (zpA rw 0 (upd (rw.2 0) x1.toNatClampNeg x2)) 1 (upd (rw.2 1) x1.toNatClampNeg x3)) 2 (zfl (rw.2 2) ((x1 * (40 : Int32)).toNatClampNeg) (((x1 * (40 : Int32)) + x3).toNatClampNeg) (0 : Int32))) rd ft tr la mo) := hD
        obtain rfl := Option.some.inj hF
        exact hend _ _ _ _ hP hD hS dX7_lay_50
      · have hF := zif c_4 hF
        obtain rfl := Option.some.inj hF
        exact hend _ _ _ _ hP hD hS dX7_lay_17
def fX7_remove (N : Nat) (rw : zOS) (x1 : Int32) : Option (Int32 × zOS) :=
  (fX7_isRow N x1).bind fun u_1 =>
  if u_1 = 0 then
    some ((0 : Int32), rw)
  else
    if x1 < 0 ∨ 8 ≤ x1.toNatClampNeg then none else
    if x1 < 0 ∨ 8 ≤ x1.toNatClampNeg then none else
    some (rw.2 1 x1.toNatClampNeg, zpA rw 0 (upd (rw.2 0) x1.toNatClampNeg (-1 : Int32)))
set_option maxHeartbeats 4000000 in
set_option maxRecDepth 100000 in
theorem qX7_remove (l : Launch) (D : va_G) (E : zE) (KL : List Nat) (kc : Nat → zKC) (on : zNS) (rw rd ft tr : zOS) (la : Nat → zLS) (mo : zMS) (N sz : Nat) (x1 : Int32) (out : Int32 × zOS) (hF : fX7_remove N rw x1 = some out) : zCi l yX7_remove zwX7_remove ({ frames := 1, cells := 0, slots := 0, locals := 20 }) [.ref (E.1 1), .int x1] D E sz (zW E KL kc on rw rd ft tr la mo) (zW E KL kc on out.2 rd ft tr la mo) out.1 0 0 := by
  refine zent_i (cc := cX7_remove) (nL := 2) (by decide) rfl (Nat.le_of_ble_eq_true rfl) ?_
  intro p e s m args below meth c Q A hx hb hml hown hts hA hK hP hD hS hE ls hl hend
  have hown : s.vm.findClass RX7 = some m.cls := hown
  have hl : lv_has ls 2 [(0, .ref (E.1 1)), (1, .int x1)] := hl
  rw [fX7_remove] at hF
  refine lv_iload_n hx hb dX7_remove_0 rfl (lv_at hl 1 rfl) ?_
  obtain ⟨u_1, hu_1, hF⟩ := zbd hF
  refine zcall_i (va_runS (As := [.int x1]) (rest := []) ⟨hx, hb, hml, hown, hts⟩ (qX7_isRow l D E KL kc on rw rd ft tr la mo N _ x1 _ hu_1) (va_cwS 1 hts (zgS k1_23 k1_8 k0_2 k1_9) rfl rfl rfl (by decide +kernel) ⟨Nat.le_of_ble_eq_true rfl, Nat.le_of_ble_eq_true rfl⟩) (zps hE hS hA hK hP hD) rfl rfl hl.1 rfl (lv_room (Nat.le_of_ble_eq_true rfl)) dX7_remove_1 ⟨Nat.zero_le _, Nat.zero_le _⟩) hD hS hA (fun H locs hP hD hS => ?_)
  refine lv_if_ne (tgt := 9) hx hb dX7_remove_4 (by decide) (fun c_2 => ?_) (fun c_2 => ?_)
  · have hF := zif c_2 hF
    refine lv_aload_n hx hb dX7_remove_9 rfl (lv_at hl 0 rfl) ?_
    refine va_get (D := D) (ci := 6) (v := .ref (E.1 2)) (C := RX7) (T := TX7) (N := 3) hx hb hts (zi iX7) hown hK hP 1 (zg_rw _ _ _ _ _ _ _ _ _ _) rfl 0 (by decide) (zh hts k0_38) (fun _ h9 => h9) rfl dX7_remove_10 ?_
    refine lv_iload_n hx hb dX7_remove_13 rfl (lv_at hl 1 rfl) ?_
    refine lv_iconst (v := -1) hx hb dX7_remove_14 (by decide) ?_
    obtain ⟨g_3, hF⟩ := zgd hF
    refine va_iast hx hb hK hP hD hS 2 1 (zg_rw_0 _ _ _ _ _ _ _ _ _ _) rfl g_3 dX7_remove_15 (fun H locs hP hD hS => ?_)
    rw [zs_rw_0] at hP hD
    have hP : va_P D vwCl (zW E KL kc on (zpA rw 0 (upd (rw.2 0) x1.toNatClampNeg (-1 : Int32))) rd ft tr la mo) H := hP
    have hD : va_D A (zW E KL kc on (zpA rw 0 (upd (rw.2 0) x1.toNatClampNeg (-1 : Int32))) rd ft tr la mo) := hD
    refine lv_aload_n hx hb dX7_remove_16 rfl (lv_at hl 0 rfl) ?_
    refine va_get (D := D) (ci := 6) (v := .ref (E.1 3)) (C := RX7) (T := TX7) (N := 3) hx hb hts (zi iX7) hown hK hP 1 (zg_rw _ _ _ _ _ _ _ _ _ _) rfl 1 (by decide) (zh hts k0_39) (fun _ h9 => h9) rfl dX7_remove_17 ?_
    refine lv_iload_n hx hb dX7_remove_20 rfl (lv_at hl 1 rfl) ?_
    obtain ⟨g_4, hF⟩ := zgd hF
    refine ziald (v := rw.2 1 x1.toNatClampNeg) hx hb hK hP 3 1 (zg_rw_1 _ _ _ _ _ _ _ _ _ _) rfl g_4 rfl dX7_remove_21 ?_
    obtain rfl := Option.some.inj hF
    exact hend _ _ _ _ hP hD hS dX7_remove_22
  · have hF := zit c_2 hF
    refine lv_iconst (v := 0) hx hb dX7_remove_7 (by decide) ?_
    obtain rfl := Option.some.inj hF
    exact hend _ _ _ _ hP hD hS dX7_remove_8
def fX7_isPlace (N : Nat) (rw : zOS) (x1 : Int32) (x2 : Int32) : Option Int32 :=
  (fX7_isRow N x1).bind fun u_1 =>
  if u_1 = 0 then
    some (0 : Int32)
  else
    if x2 < 0 then
      some (0 : Int32)
    else
      if x1 < 0 ∨ 8 ≤ x1.toNatClampNeg then none else
      if (rw.2 1 x1.toNatClampNeg) ≤ x2 then
        some (0 : Int32)
      else
        some (1 : Int32)
set_option maxHeartbeats 4000000 in
set_option maxRecDepth 100000 in
theorem qX7_isPlace (l : Launch) (D : va_G) (E : zE) (KL : List Nat) (kc : Nat → zKC) (on : zNS) (rw rd ft tr : zOS) (la : Nat → zLS) (mo : zMS) (N sz : Nat) (x1 : Int32) (x2 : Int32) (out : Int32) (hF : fX7_isPlace N rw x1 x2 = some out) : zCi l yX7_isPlace zwX7_isPlace ({ frames := 1, cells := 0, slots := 0, locals := 20 }) [.ref (E.1 1), .int x1, .int x2] D E sz (zW E KL kc on rw rd ft tr la mo) (zW E KL kc on rw rd ft tr la mo) out 0 0 := by
  refine zent_z (cc := cX7_isPlace) (nL := 3) (by decide) rfl (Nat.le_of_ble_eq_true rfl) ?_
  intro p e s m args below meth c Q A hx hb hml hown hts hA hK hP hD hS hE ls hl hend
  have hown : s.vm.findClass RX7 = some m.cls := hown
  have hl : lv_has ls 3 [(0, .ref (E.1 1)), (1, .int x1), (2, .int x2)] := hl
  rw [fX7_isPlace] at hF
  refine lv_iload_n hx hb dX7_isPlace_0 rfl (lv_at hl 1 rfl) ?_
  obtain ⟨u_1, hu_1, hF⟩ := zbd hF
  refine zcall_i (va_runS (As := [.int x1]) (rest := []) ⟨hx, hb, hml, hown, hts⟩ (qX7_isRow l D E KL kc on rw rd ft tr la mo N _ x1 _ hu_1) (va_cwS 1 hts (zgS k1_23 k1_8 k0_2 k1_9) rfl rfl rfl (by decide +kernel) ⟨Nat.le_of_ble_eq_true rfl, Nat.le_of_ble_eq_true rfl⟩) (zps hE hS hA hK hP hD) rfl rfl hl.1 rfl (lv_room (Nat.le_of_ble_eq_true rfl)) dX7_isPlace_1 ⟨Nat.zero_le _, Nat.zero_le _⟩) hD hS hA (fun H locs hP hD hS => ?_)
  refine lv_if_eq (tgt := 25) hx hb dX7_isPlace_4 (by decide) (fun c_2 => ?_) (fun c_2 => ?_)
  · have hF := zit c_2 hF
    refine lv_iconst (v := 0) hx hb dX7_isPlace_25 (by decide) ?_
    obtain rfl := Option.some.inj hF
    exact hend _ _ _ _ znar0 hP hD hS dX7_isPlace_26
  · have hF := zif c_2 hF
    refine lv_iload_n hx hb dX7_isPlace_7 rfl (lv_at hl 2 rfl) ?_
    refine lv_if_lt (tgt := 25) hx hb dX7_isPlace_8 (by decide) (fun c_3 => ?_) (fun c_3 => ?_)
    · have hF := zit c_3 hF
      refine lv_iconst (v := 0) hx hb dX7_isPlace_25 (by decide) ?_
      obtain rfl := Option.some.inj hF
      exact hend _ _ _ _ znar0 hP hD hS dX7_isPlace_26
    · have hF := zif c_3 hF
      refine lv_iload_n hx hb dX7_isPlace_11 rfl (lv_at hl 2 rfl) ?_
      refine lv_aload_n hx hb dX7_isPlace_12 rfl (lv_at hl 0 rfl) ?_
      refine va_get (D := D) (ci := 6) (v := .ref (E.1 3)) (C := RX7) (T := TX7) (N := 3) hx hb hts (zi iX7) hown hK hP 1 (zg_rw _ _ _ _ _ _ _ _ _ _) rfl 1 (by decide) (zh hts k0_39) (fun _ h9 => h9) rfl dX7_isPlace_13 ?_
      refine lv_iload_n hx hb dX7_isPlace_16 rfl (lv_at hl 1 rfl) ?_
      obtain ⟨g_4, hF⟩ := zgd hF
      refine ziald (v := rw.2 1 x1.toNatClampNeg) hx hb hK hP 3 1 (zg_rw_1 _ _ _ _ _ _ _ _ _ _) rfl g_4 rfl dX7_isPlace_17 ?_
      refine lv_icmp_ge (tgt := 25) hx hb dX7_isPlace_18 (by decide) (fun c_5 => ?_) (fun c_5 => ?_)
      · have hF := zit c_5 hF
        refine lv_iconst (v := 0) hx hb dX7_isPlace_25 (by decide) ?_
        obtain rfl := Option.some.inj hF
        exact hend _ _ _ _ znar0 hP hD hS dX7_isPlace_26
      · have hF := zif c_5 hF
        refine lv_iconst (v := 1) hx hb dX7_isPlace_21 (by decide) ?_
        refine lv_goto (tgt := 26) hx hb dX7_isPlace_22 (by decide) ?_
        obtain rfl := Option.some.inj hF
        exact hend _ _ _ _ znar1 hP hD hS dX7_isPlace_26
def fX7_isStretch (N : Nat) (rw : zOS) (x1 : Int32) (x2 : Int32) (x3 : Int32) : Option Int32 :=
  (fX7_isRow N x1).bind fun u_1 =>
  if u_1 = 0 then
    some (0 : Int32)
  else
    if x3 < 0 then
      some (0 : Int32)
    else
      if x2 < 0 then
        some (0 : Int32)
      else
        if x1 < 0 ∨ 8 ≤ x1.toNatClampNeg then none else
        if ((rw.2 1 x1.toNatClampNeg) - x3) < x2 then
          some (0 : Int32)
        else
          some (1 : Int32)
set_option maxHeartbeats 4000000 in
set_option maxRecDepth 100000 in
theorem qX7_isStretch (l : Launch) (D : va_G) (E : zE) (KL : List Nat) (kc : Nat → zKC) (on : zNS) (rw rd ft tr : zOS) (la : Nat → zLS) (mo : zMS) (N sz : Nat) (x1 : Int32) (x2 : Int32) (x3 : Int32) (out : Int32) (hF : fX7_isStretch N rw x1 x2 x3 = some out) : zCi l yX7_isStretch zwX7_isStretch ({ frames := 1, cells := 0, slots := 0, locals := 20 }) [.ref (E.1 1), .int x1, .int x2, .int x3] D E sz (zW E KL kc on rw rd ft tr la mo) (zW E KL kc on rw rd ft tr la mo) out 0 0 := by
  refine zent_z (cc := cX7_isStretch) (nL := 4) (by decide) rfl (Nat.le_of_ble_eq_true rfl) ?_
  intro p e s m args below meth c Q A hx hb hml hown hts hA hK hP hD hS hE ls hl hend
  have hown : s.vm.findClass RX7 = some m.cls := hown
  have hl : lv_has ls 4 [(0, .ref (E.1 1)), (1, .int x1), (2, .int x2), (3, .int x3)] := hl
  rw [fX7_isStretch] at hF
  refine lv_iload_n hx hb dX7_isStretch_0 rfl (lv_at hl 1 rfl) ?_
  obtain ⟨u_1, hu_1, hF⟩ := zbd hF
  refine zcall_i (va_runS (As := [.int x1]) (rest := []) ⟨hx, hb, hml, hown, hts⟩ (qX7_isRow l D E KL kc on rw rd ft tr la mo N _ x1 _ hu_1) (va_cwS 1 hts (zgS k1_23 k1_8 k0_2 k1_9) rfl rfl rfl (by decide +kernel) ⟨Nat.le_of_ble_eq_true rfl, Nat.le_of_ble_eq_true rfl⟩) (zps hE hS hA hK hP hD) rfl rfl hl.1 rfl (lv_room (Nat.le_of_ble_eq_true rfl)) dX7_isStretch_1 ⟨Nat.zero_le _, Nat.zero_le _⟩) hD hS hA (fun H locs hP hD hS => ?_)
  refine lv_if_eq (tgt := 31) hx hb dX7_isStretch_4 (by decide) (fun c_2 => ?_) (fun c_2 => ?_)
  · have hF := zit c_2 hF
    refine lv_iconst (v := 0) hx hb dX7_isStretch_31 (by decide) ?_
    obtain rfl := Option.some.inj hF
    exact hend _ _ _ _ znar0 hP hD hS dX7_isStretch_32
  · have hF := zif c_2 hF
    refine lv_iload_n hx hb dX7_isStretch_7 rfl (lv_at hl 3 rfl) ?_
    refine lv_if_lt (tgt := 31) hx hb dX7_isStretch_8 (by decide) (fun c_3 => ?_) (fun c_3 => ?_)
    · have hF := zit c_3 hF
      refine lv_iconst (v := 0) hx hb dX7_isStretch_31 (by decide) ?_
      obtain rfl := Option.some.inj hF
      exact hend _ _ _ _ znar0 hP hD hS dX7_isStretch_32
    · have hF := zif c_3 hF
      refine lv_iload_n hx hb dX7_isStretch_11 rfl (lv_at hl 2 rfl) ?_
      refine lv_if_lt (tgt := 31) hx hb dX7_isStretch_12 (by decide) (fun c_4 => ?_) (fun c_4 => ?_)
      · have hF := zit c_4 hF
        refine lv_iconst (v := 0) hx hb dX7_isStretch_31 (by decide) ?_
        obtain rfl := Option.some.inj hF
        exact hend _ _ _ _ znar0 hP hD hS dX7_isStretch_32
      · have hF := zif c_4 hF
        refine lv_iload_n hx hb dX7_isStretch_15 rfl (lv_at hl 2 rfl) ?_
        refine lv_aload_n hx hb dX7_isStretch_16 rfl (lv_at hl 0 rfl) ?_
        refine va_get (D := D) (ci := 6) (v := .ref (E.1 3)) (C := RX7) (T := TX7) (N := 3) hx hb hts (zi iX7) hown hK hP 1 (zg_rw _ _ _ _ _ _ _ _ _ _) rfl 1 (by decide) (zh hts k0_39) (fun _ h9 => h9) rfl dX7_isStretch_17 ?_
        refine lv_iload_n hx hb dX7_isStretch_20 rfl (lv_at hl 1 rfl) ?_
        obtain ⟨g_5, hF⟩ := zgd hF
        refine ziald (v := rw.2 1 x1.toNatClampNeg) hx hb hK hP 3 1 (zg_rw_1 _ _ _ _ _ _ _ _ _ _) rfl g_5 rfl dX7_isStretch_21 ?_
        refine lv_iload_n hx hb dX7_isStretch_22 rfl (lv_at hl 3 rfl) ?_
        refine lv_isub hx hb dX7_isStretch_23 ?_
        refine lv_icmp_gt (tgt := 31) hx hb dX7_isStretch_24 (by decide) (fun c_6 => ?_) (fun c_6 => ?_)
        · have hF := zit c_6 hF
          refine lv_iconst (v := 0) hx hb dX7_isStretch_31 (by decide) ?_
          obtain rfl := Option.some.inj hF
          exact hend _ _ _ _ znar0 hP hD hS dX7_isStretch_32
        · have hF := zif c_6 hF
          refine lv_iconst (v := 1) hx hb dX7_isStretch_27 (by decide) ?_
          refine lv_goto (tgt := 32) hx hb dX7_isStretch_28 (by decide) ?_
          obtain rfl := Option.some.inj hF
          exact hend _ _ _ _ znar1 hP hD hS dX7_isStretch_32
def fX7_areOfOneLane (N : Nat) (rw : zOS) (x1 : Int32) (x2 : Int32) : Option Int32 :=
  (fX7_isRow N x1).bind fun u_1 =>
  if u_1 = 0 then
    some (0 : Int32)
  else
    (fX7_isRow N x2).bind fun u_3 =>
    if u_3 = 0 then
      some (0 : Int32)
    else
      if x1 < 0 ∨ 8 ≤ x1.toNatClampNeg then none else
      if x2 < 0 ∨ 8 ≤ x2.toNatClampNeg then none else
      if (rw.2 0 x1.toNatClampNeg) = (rw.2 0 x2.toNatClampNeg) then
        some (1 : Int32)
      else
        some (0 : Int32)
set_option maxHeartbeats 4000000 in
set_option maxRecDepth 100000 in
theorem qX7_areOfOneLane (l : Launch) (D : va_G) (E : zE) (KL : List Nat) (kc : Nat → zKC) (on : zNS) (rw rd ft tr : zOS) (la : Nat → zLS) (mo : zMS) (N sz : Nat) (x1 : Int32) (x2 : Int32) (out : Int32) (hF : fX7_areOfOneLane N rw x1 x2 = some out) : zCi l yX7_areOfOneLane zwX7_areOfOneLane ({ frames := 1, cells := 0, slots := 0, locals := 20 }) [.ref (E.1 1), .int x1, .int x2] D E sz (zW E KL kc on rw rd ft tr la mo) (zW E KL kc on rw rd ft tr la mo) out 0 0 := by
  refine zent_z (cc := cX7_areOfOneLane) (nL := 3) (by decide) rfl (Nat.le_of_ble_eq_true rfl) ?_
  intro p e s m args below meth c Q A hx hb hml hown hts hA hK hP hD hS hE ls hl hend
  have hown : s.vm.findClass RX7 = some m.cls := hown
  have hl : lv_has ls 3 [(0, .ref (E.1 1)), (1, .int x1), (2, .int x2)] := hl
  rw [fX7_areOfOneLane] at hF
  refine lv_iload_n hx hb dX7_areOfOneLane_0 rfl (lv_at hl 1 rfl) ?_
  obtain ⟨u_1, hu_1, hF⟩ := zbd hF
  refine zcall_i (va_runS (As := [.int x1]) (rest := []) ⟨hx, hb, hml, hown, hts⟩ (qX7_isRow l D E KL kc on rw rd ft tr la mo N _ x1 _ hu_1) (va_cwS 1 hts (zgS k1_23 k1_8 k0_2 k1_9) rfl rfl rfl (by decide +kernel) ⟨Nat.le_of_ble_eq_true rfl, Nat.le_of_ble_eq_true rfl⟩) (zps hE hS hA hK hP hD) rfl rfl hl.1 rfl (lv_room (Nat.le_of_ble_eq_true rfl)) dX7_areOfOneLane_1 ⟨Nat.zero_le _, Nat.zero_le _⟩) hD hS hA (fun H locs hP hD hS => ?_)
  refine lv_if_eq (tgt := 33) hx hb dX7_areOfOneLane_4 (by decide) (fun c_2 => ?_) (fun c_2 => ?_)
  · have hF := zit c_2 hF
    refine lv_iconst (v := 0) hx hb dX7_areOfOneLane_33 (by decide) ?_
    obtain rfl := Option.some.inj hF
    exact hend _ _ _ _ znar0 hP hD hS dX7_areOfOneLane_34
  · have hF := zif c_2 hF
    refine lv_iload_n hx hb dX7_areOfOneLane_7 rfl (lv_at hl 2 rfl) ?_
    obtain ⟨u_3, hu_3, hF⟩ := zbd hF
    refine zcall_i (va_runS (As := [.int x2]) (rest := []) ⟨hx, hb, hml, hown, hts⟩ (qX7_isRow l D E KL kc on rw rd ft tr la mo N _ x2 _ hu_3) (va_cwS 1 hts (zgS k1_23 k1_8 k0_2 k1_9) rfl rfl rfl (by decide +kernel) ⟨Nat.le_of_ble_eq_true rfl, Nat.le_of_ble_eq_true rfl⟩) (zps hE hS hA hK hP hD) rfl rfl hl.1 rfl (lv_room (Nat.le_of_ble_eq_true rfl)) dX7_areOfOneLane_8 ⟨Nat.zero_le _, Nat.zero_le _⟩) hD hS hA (fun H locs hP hD hS => ?_)
    refine lv_if_eq (tgt := 33) hx hb dX7_areOfOneLane_11 (by decide) (fun c_4 => ?_) (fun c_4 => ?_)
    · have hF := zit c_4 hF
      refine lv_iconst (v := 0) hx hb dX7_areOfOneLane_33 (by decide) ?_
      obtain rfl := Option.some.inj hF
      exact hend _ _ _ _ znar0 hP hD hS dX7_areOfOneLane_34
    · have hF := zif c_4 hF
      refine lv_aload_n hx hb dX7_areOfOneLane_14 rfl (lv_at hl 0 rfl) ?_
      refine va_get (D := D) (ci := 6) (v := .ref (E.1 2)) (C := RX7) (T := TX7) (N := 3) hx hb hts (zi iX7) hown hK hP 1 (zg_rw _ _ _ _ _ _ _ _ _ _) rfl 0 (by decide) (zh hts k0_38) (fun _ h9 => h9) rfl dX7_areOfOneLane_15 ?_
      refine lv_iload_n hx hb dX7_areOfOneLane_18 rfl (lv_at hl 1 rfl) ?_
      obtain ⟨g_5, hF⟩ := zgd hF
      refine ziald (v := rw.2 0 x1.toNatClampNeg) hx hb hK hP 2 1 (zg_rw_0 _ _ _ _ _ _ _ _ _ _) rfl g_5 rfl dX7_areOfOneLane_19 ?_
      refine lv_aload_n hx hb dX7_areOfOneLane_20 rfl (lv_at hl 0 rfl) ?_
      refine va_get (D := D) (ci := 6) (v := .ref (E.1 2)) (C := RX7) (T := TX7) (N := 3) hx hb hts (zi iX7) hown hK hP 1 (zg_rw _ _ _ _ _ _ _ _ _ _) rfl 0 (by decide) (zh hts k0_38) (fun _ h9 => h9) rfl dX7_areOfOneLane_21 ?_
      refine lv_iload_n hx hb dX7_areOfOneLane_24 rfl (lv_at hl 2 rfl) ?_
      obtain ⟨g_6, hF⟩ := zgd hF
      refine ziald (v := rw.2 0 x2.toNatClampNeg) hx hb hK hP 2 1 (zg_rw_0 _ _ _ _ _ _ _ _ _ _) rfl g_6 rfl dX7_areOfOneLane_25 ?_
      refine lv_icmp_ne (tgt := 33) hx hb dX7_areOfOneLane_26 (by decide) (fun c_7 => ?_) (fun c_7 => ?_)
      · have hF := zif c_7 hF
        refine lv_iconst (v := 0) hx hb dX7_areOfOneLane_33 (by decide) ?_
        obtain rfl := Option.some.inj hF
        exact hend _ _ _ _ znar0 hP hD hS dX7_areOfOneLane_34
      · have hF := zit c_7 hF
        refine lv_iconst (v := 1) hx hb dX7_areOfOneLane_29 (by decide) ?_
        refine lv_goto (tgt := 34) hx hb dX7_areOfOneLane_30 (by decide) ?_
        obtain rfl := Option.some.inj hF
        exact hend _ _ _ _ znar1 hP hD hS dX7_areOfOneLane_34
def fX7_itemAt (N : Nat) (rw : zOS) (x1 : Int32) (x2 : Int32) : Option Int32 :=
  (fX7_isPlace N rw x1 x2).bind fun u_1 =>
  if u_1 = 0 then
    some (0 : Int32)
  else
    if ((x1 * (40 : Int32)) + x2) < 0 ∨ 320 ≤ ((x1 * (40 : Int32)) + x2).toNatClampNeg then none else
    some (rw.2 2 (((x1 * (40 : Int32)) + x2).toNatClampNeg))
set_option maxHeartbeats 4000000 in
set_option maxRecDepth 100000 in
theorem qX7_itemAt (l : Launch) (D : va_G) (E : zE) (KL : List Nat) (kc : Nat → zKC) (on : zNS) (rw rd ft tr : zOS) (la : Nat → zLS) (mo : zMS) (N sz : Nat) (x1 : Int32) (x2 : Int32) (out : Int32) (hF : fX7_itemAt N rw x1 x2 = some out) : zCi l yX7_itemAt zwX7_itemAt ({ frames := 2, cells := 0, slots := 0, locals := 42 }) [.ref (E.1 1), .int x1, .int x2] D E sz (zW E KL kc on rw rd ft tr la mo) (zW E KL kc on rw rd ft tr la mo) out 0 0 := by
  refine zent_i (cc := cX7_itemAt) (nL := 3) (by decide) rfl (Nat.le_of_ble_eq_true rfl) ?_
  intro p e s m args below meth c Q A hx hb hml hown hts hA hK hP hD hS hE ls hl hend
  have hown : s.vm.findClass RX7 = some m.cls := hown
  have hl : lv_has ls 3 [(0, .ref (E.1 1)), (1, .int x1), (2, .int x2)] := hl
  rw [fX7_itemAt] at hF
  refine lv_aload_n hx hb dX7_itemAt_0 rfl (lv_at hl 0 rfl) ?_
  refine lv_iload_n hx hb dX7_itemAt_1 rfl (lv_at hl 1 rfl) ?_
  refine lv_iload_n hx hb dX7_itemAt_2 rfl (lv_at hl 2 rfl) ?_
  obtain ⟨u_1, hu_1, hF⟩ := zbd hF
  refine zcall_i (va_runV (As := [.int x1, .int x2]) (rest := []) ⟨hx, hb, hml, hown, hts⟩ (qX7_isPlace l D E KL kc on rw rd ft tr la mo N _ x1 x2 _ hu_1) (cwV 2 hts (zgV k1_50 k1_43 k1_44 k0_2 k1_45) rfl rfl rfl (by decide +kernel) ⟨Nat.le_of_ble_eq_true rfl, Nat.le_of_ble_eq_true rfl⟩) (zpv hE hS hA hK hP hD (va_recv hK hP (ci := 6) (q0 := 1) rfl (zg_rw _ _ _ _ _ _ _ _ _ _))) rfl rfl hl.1 rfl (lv_room (Nat.le_of_ble_eq_true rfl)) dX7_itemAt_3 ⟨Nat.zero_le _, Nat.zero_le _⟩) hD hS hA (fun H locs hP hD hS => ?_)
  refine lv_if_eq (tgt := 23) hx hb dX7_itemAt_6 (by decide) (fun c_2 => ?_) (fun c_2 => ?_)
  · have hF := zit c_2 hF
    refine lv_iconst (v := 0) hx hb dX7_itemAt_23 (by decide) ?_
    obtain rfl := Option.some.inj hF
    exact hend _ _ _ _ hP hD hS dX7_itemAt_24
  · have hF := zif c_2 hF
    refine lv_aload_n hx hb dX7_itemAt_9 rfl (lv_at hl 0 rfl) ?_
    refine va_get (D := D) (ci := 6) (v := .ref (E.1 4)) (C := RX7) (T := TX7) (N := 3) hx hb hts (zi iX7) hown hK hP 1 (zg_rw _ _ _ _ _ _ _ _ _ _) rfl 2 (by decide) (zh hts k0_40) (fun _ h9 => h9) rfl dX7_itemAt_10 ?_
    refine lv_iload_n hx hb dX7_itemAt_13 rfl (lv_at hl 1 rfl) ?_
    refine lv_bipush (v := 40) hx hb dX7_itemAt_14 (by decide) ?_
    refine lv_imul hx hb dX7_itemAt_16 ?_
    refine lv_iload_n hx hb dX7_itemAt_17 rfl (lv_at hl 2 rfl) ?_
    refine lv_iadd hx hb dX7_itemAt_18 ?_
    obtain ⟨g_3, hF⟩ := zgd hF
    refine ziald (v := rw.2 2 (((x1 * (40 : Int32)) + x2).toNatClampNeg)) hx hb hK hP 4 1 (zg_rw_2 _ _ _ _ _ _ _ _ _ _) rfl g_3 rfl dX7_itemAt_19 ?_
    refine lv_goto (tgt := 24) hx hb dX7_itemAt_20 (by decide) ?_
    obtain rfl := Option.some.inj hF
    exact hend _ _ _ _ hP hD hS dX7_itemAt_24
def fX7_move (N : Nat) (rw : zOS) (x1 : Int32) (x2 : Int32) (x3 : Int32) (x4 : Int32) (x5 : Int32) : Option zOS :=
  (fX7_isStretch N rw x1 x2 x5).bind fun u_1 =>
  if u_1 = 0 then
    some rw
  else
    (fX7_isStretch N rw x3 x4 x5).bind fun u_3 =>
    if u_3 = 0 then
      some rw
    else
      if ((x1 * (40 : Int32)) + x2) < 0 then none else
      if ((x3 * (40 : Int32)) + x4) < 0 then none else
      if x5 < 0 then none else
      if 320 < (((x1 * (40 : Int32)) + x2).toNatClampNeg) + x5.toNatClampNeg then none else
      if 320 < (((x3 * (40 : Int32)) + x4).toNatClampNeg) + x5.toNatClampNeg then none else
      some (zpA rw 2 (va_cpy (rw.2 2) (rw.2 2) (((x1 * (40 : Int32)) + x2).toNatClampNeg) (((x3 * (40 : Int32)) + x4).toNatClampNeg) x5.toNatClampNeg))
set_option maxHeartbeats 4000000 in
set_option maxRecDepth 100000 in
theorem qX7_move (l : Launch) (D : va_G) (E : zE) (KL : List Nat) (kc : Nat → zKC) (on : zNS) (rw rd ft tr : zOS) (la : Nat → zLS) (mo : zMS) (N sz : Nat) (x1 : Int32) (x2 : Int32) (x3 : Int32) (x4 : Int32) (x5 : Int32) (out : zOS) (hF : fX7_move N rw x1 x2 x3 x4 x5 = some out) : zCv l yX7_move zwX7_move ({ frames := 2, cells := 0, slots := 0, locals := 60 }) [.ref (E.1 1), .int x1, .int x2, .int x3, .int x4, .int x5] D E sz (zW E KL kc on rw rd ft tr la mo) (zW E KL kc on out rd ft tr la mo) 0 0 := by
  refine zent_v (cc := cX7_move) (nL := 6) (by decide) rfl (Nat.le_of_ble_eq_true rfl) ?_
  intro p e s m args below meth c Q A hx hb hml hown hts hA hK hP hD hS hE ls hl hend
  have hown : s.vm.findClass RX7 = some m.cls := hown
  have hl : lv_has ls 6 [(0, .ref (E.1 1)), (1, .int x1), (2, .int x2), (3, .int x3), (4, .int x4), (5, .int x5)] := hl
  rw [fX7_move] at hF
  refine lv_aload_n hx hb dX7_move_0 rfl (lv_at hl 0 rfl) ?_
  refine lv_iload_n hx hb dX7_move_1 rfl (lv_at hl 1 rfl) ?_
  refine lv_iload_n hx hb dX7_move_2 rfl (lv_at hl 2 rfl) ?_
  refine lv_iload hx hb dX7_move_3 (lv_at hl 5 rfl) ?_
  obtain ⟨u_1, hu_1, hF⟩ := zbd hF
  refine zcall_i (va_runV (As := [.int x1, .int x2, .int x5]) (rest := []) ⟨hx, hb, hml, hown, hts⟩ (qX7_isStretch l D E KL kc on rw rd ft tr la mo N _ x1 x2 x5 _ hu_1) (cwV 3 hts (zgV k1_70 k1_63 k1_64 k0_2 k1_65) rfl rfl rfl (by decide +kernel) ⟨Nat.le_of_ble_eq_true rfl, Nat.le_of_ble_eq_true rfl⟩) (zpv hE hS hA hK hP hD (va_recv hK hP (ci := 6) (q0 := 1) rfl (zg_rw _ _ _ _ _ _ _ _ _ _))) rfl rfl hl.1 rfl (lv_room (Nat.le_of_ble_eq_true rfl)) dX7_move_5 ⟨Nat.zero_le _, Nat.zero_le _⟩) hD hS hA (fun H locs hP hD hS => ?_)
  refine lv_if_eq (tgt := 49) hx hb dX7_move_8 (by decide) (fun c_2 => ?_) (fun c_2 => ?_)
  · have hF := zit c_2 hF
    obtain rfl := Option.some.inj hF
    exact hend _ _ _ _ hP hD hS dX7_move_49
  · have hF := zif c_2 hF
    refine lv_aload_n hx hb dX7_move_11 rfl (lv_at hl 0 rfl) ?_
    refine lv_iload_n hx hb dX7_move_12 rfl (lv_at hl 3 rfl) ?_
    refine lv_iload hx hb dX7_move_13 (lv_at hl 4 rfl) ?_
    refine lv_iload hx hb dX7_move_15 (lv_at hl 5 rfl) ?_
    obtain ⟨u_3, hu_3, hF⟩ := zbd hF
    refine zcall_i (va_runV (As := [.int x3, .int x4, .int x5]) (rest := []) ⟨hx, hb, hml, hown, hts⟩ (qX7_isStretch l D E KL kc on rw rd ft tr la mo N _ x3 x4 x5 _ hu_3) (cwV 3 hts (zgV k1_70 k1_63 k1_64 k0_2 k1_65) rfl rfl rfl (by decide +kernel) ⟨Nat.le_of_ble_eq_true rfl, Nat.le_of_ble_eq_true rfl⟩) (zpv hE hS hA hK hP hD (va_recv hK hP (ci := 6) (q0 := 1) rfl (zg_rw _ _ _ _ _ _ _ _ _ _))) rfl rfl hl.1 rfl (lv_room (Nat.le_of_ble_eq_true rfl)) dX7_move_17 ⟨Nat.zero_le _, Nat.zero_le _⟩) hD hS hA (fun H locs hP hD hS => ?_)
    refine lv_if_eq (tgt := 49) hx hb dX7_move_20 (by decide) (fun c_4 => ?_) (fun c_4 => ?_)
    · have hF := zit c_4 hF
      obtain rfl := Option.some.inj hF
      exact hend _ _ _ _ hP hD hS dX7_move_49
    · have hF := zif c_4 hF
      refine lv_aload_n hx hb dX7_move_23 rfl (lv_at hl 0 rfl) ?_
      refine va_get (D := D) (ci := 6) (v := .ref (E.1 4)) (C := RX7) (T := TX7) (N := 3) hx hb hts (zi iX7) hown hK hP 1 (zg_rw _ _ _ _ _ _ _ _ _ _) rfl 2 (by decide) (zh hts k0_40) (fun _ h9 => h9) rfl dX7_move_24 ?_
      refine lv_iload_n hx hb dX7_move_27 rfl (lv_at hl 1 rfl) ?_
      refine lv_bipush (v := 40) hx hb dX7_move_28 (by decide) ?_
      refine lv_imul hx hb dX7_move_30 ?_
      refine lv_iload_n hx hb dX7_move_31 rfl (lv_at hl 2 rfl) ?_
      refine lv_iadd hx hb dX7_move_32 ?_
      refine lv_aload_n hx hb dX7_move_33 rfl (lv_at hl 0 rfl) ?_
      refine va_get (D := D) (ci := 6) (v := .ref (E.1 4)) (C := RX7) (T := TX7) (N := 3) hx hb hts (zi iX7) hown hK hP 1 (zg_rw _ _ _ _ _ _ _ _ _ _) rfl 2 (by decide) (zh hts k0_40) (fun _ h9 => h9) rfl dX7_move_34 ?_
      refine lv_iload_n hx hb dX7_move_37 rfl (lv_at hl 3 rfl) ?_
      refine lv_bipush (v := 40) hx hb dX7_move_38 (by decide) ?_
      refine lv_imul hx hb dX7_move_40 ?_
      refine lv_iload hx hb dX7_move_41 (lv_at hl 4 rfl) ?_
      refine lv_iadd hx hb dX7_move_43 ?_
      refine lv_iload hx hb dX7_move_44 (lv_at hl 5 rfl) ?_
      obtain ⟨g_5, hF⟩ := zgd hF
      obtain ⟨g_6, hF⟩ := zgd hF
      obtain ⟨g_7, hF⟩ := zgd hF
      obtain ⟨g_8, hF⟩ := zgd hF
      obtain ⟨g_9, hF⟩ := zgd hF
      refine va_copyi hx hb (hml.trans hl.1.symm) (own := RX7) hown (zh hts k1_71) (zh hts k1_73) (zh hts k1_72) (zh hts k0_9) hK hP hD hS 4 4 1 1 (zg_rw_2 _ _ _ _ _ _ _ _ _ _) (zg_rw_2 _ _ _ _ _ _ _ _ _ _) rfl rfl rfl g_5 g_6 g_7 (Nat.not_lt.mp g_8) (Nat.not_lt.mp g_9) (fun _ _ => rfl) (Nat.le_of_ble_eq_true rfl) (Nat.le_of_ble_eq_true rfl) dX7_move_46 (fun H locs hP hD hS => ?_)
      rw [zs_rw_2] at hP hD
      have hP : va_P D vwCl (zW E KL kc on (zpA rw 2 (va_cpy (rw.2 2) (rw.2 2) (((x1 * (40 : Int32)) + x2).toNatClampNeg) (((x3 * (40 : Int32)) + x4).toNatClampNeg) x5.toNatClampNeg)) rd ft tr la mo) H := hP
      have hD : va_D A (zW E KL kc on (zpA rw 2 (va_cpy (rw.2 2) (rw.2 2) (((x1 * (40 : Int32)) + x2).toNatClampNeg) (((x3 * (40 : Int32)) + x4).toNatClampNeg) x5.toNatClampNeg)) rd ft tr la mo) := hD
      obtain rfl := Option.some.inj hF
      exact hend _ _ _ _ hP hD hS dX7_move_49
def fX7_narrowed (N : Nat) (x0 : Int32) (x1 : Int32) : Option Int32 :=
  if x0 = 0 then
    some x1.toInt8.toInt32
  else if x0 = 1 then
    some x1.toInt16.toInt32
  else 
    some x1
set_option maxHeartbeats 4000000 in
set_option maxRecDepth 100000 in
theorem qX7_narrowed (l : Launch) (D : va_G) (E : zE) (KL : List Nat) (kc : Nat → zKC) (on : zNS) (rw rd ft tr : zOS) (la : Nat → zLS) (mo : zMS) (N sz : Nat) (x0 : Int32) (x1 : Int32) (out : Int32) (hF : fX7_narrowed N x0 x1 = some out) : zCi l yX7_narrowed zwX7_narrowed ({ frames := 0, cells := 0, slots := 0, locals := 0 }) [.int x0, .int x1] D E sz (zW E KL kc on rw rd ft tr la mo) (zW E KL kc on rw rd ft tr la mo) out 0 0 := by
  refine zent_i (cc := cX7_narrowed) (nL := 2) (by decide) rfl (Nat.le_of_ble_eq_true rfl) ?_
  intro p e s m args below meth c Q A hx hb hml hown hts hA hK hP hD hS hE ls hl hend
  have hown : s.vm.findClass RX7 = some m.cls := hown
  have hl : lv_has ls 2 [(0, .int x0), (1, .int x1)] := hl
  rw [fX7_narrowed] at hF
  refine lv_iload_n hx hb dX7_narrowed_0 rfl (lv_at hl 0 rfl) ?_
  by_cases c_1 : x0 = 0
  · have hF := zit c_1 hF
    refine lv_lookup (off := 27) (tgt := 28) hx hb dX7_narrowed_1 (by decide) (by rw [c_1]; decide) (by decide) ?_
    refine lv_iload_n hx hb dX7_narrowed_28 rfl (lv_at hl 1 rfl) ?_
    refine lv_i2b hx hb dX7_narrowed_29 rfl ?_
    obtain rfl := Option.some.inj hF
    exact hend _ _ _ _ hP hD hS dX7_narrowed_30
  · have hF := zif c_1 hF
    by_cases c_2 : x0 = 1
    · have hF := zit c_2 hF
      refine lv_lookup (off := 30) (tgt := 31) hx hb dX7_narrowed_1 (by decide) (by rw [c_2]; decide) (by decide) ?_
      refine lv_iload_n hx hb dX7_narrowed_31 rfl (lv_at hl 1 rfl) ?_
      refine lv_i2s hx hb dX7_narrowed_32 rfl ?_
      obtain rfl := Option.some.inj hF
      exact hend _ _ _ _ hP hD hS dX7_narrowed_33
    · have hF := zif c_2 hF
      refine lv_lookup (off := 33) (tgt := 34) hx hb dX7_narrowed_1 (by decide) (zlk_0_1 c_1 c_2) (by decide) ?_
      refine lv_iload_n hx hb dX7_narrowed_34 rfl (lv_at hl 1 rfl) ?_
      obtain rfl := Option.some.inj hF
      exact hend _ _ _ _ hP hD hS dX7_narrowed_35
def fX9_clear (N : Nat) (tr : zOS) : Option zOS :=
  some (zpi tr 1 (0 : Int32))
set_option maxHeartbeats 4000000 in
set_option maxRecDepth 100000 in
theorem qX9_clear (l : Launch) (D : va_G) (E : zE) (KL : List Nat) (kc : Nat → zKC) (on : zNS) (rw rd ft tr : zOS) (la : Nat → zLS) (mo : zMS) (N sz : Nat)  (out : zOS) (hF : fX9_clear N tr = some out) : zCv l yX9_clear zwX9_clear ({ frames := 0, cells := 0, slots := 0, locals := 0 }) [.ref (E.1 11)] D E sz (zW E KL kc on rw rd ft tr la mo) (zW E KL kc on rw rd ft out la mo) 0 0 := by
  refine zent_v (cc := cX9_clear) (nL := 1) (by decide) rfl (Nat.le_of_ble_eq_true rfl) ?_
  intro p e s m args below meth c Q A hx hb hml hown hts hA hK hP hD hS hE ls hl hend
  have hown : s.vm.findClass RX9 = some m.cls := hown
  have hl : lv_has ls 1 [(0, .ref (E.1 11))] := hl
  rw [fX9_clear] at hF
  refine lv_aload_n hx hb dX9_clear_0 rfl (lv_at hl 0 rfl) ?_
  refine lv_iconst (v := 0) hx hb dX9_clear_1 (by decide) ?_
  refine va_put (D := D) (ci := 8) (v := .int (0 : Int32)) (ty := .int) (C := RX9) (T := TX9) (N := 2) hx hb hts (zi iX9) tyX9 tyX9_ok nmX9 hown hK hP hD hS 11 (zg_tr _ _ _ _ _ _ _ _ _ _) rfl 1 (by decide) (zh hts k0_207) (fun _ h9 => h9) rfl (by decide +kernel) rfl rfl (Nat.le_of_ble_eq_true rfl) dX9_clear_2 (fun H locs hP hD hS => ?_)
  rw [zs_tr_1] at hP hD
  obtain rfl := Option.some.inj hF
  exact hend _ _ _ _ hP hD hS dX9_clear_5
def fX9_leave (N : Nat) (tr : zOS) (x1 : Int32) : Option zOS :=
  if (tr.1 1) < 0 then
    some tr
  else
    if (16 : Int32) ≤ (tr.1 1) then
      some tr
    else
      if (tr.1 1) < 0 ∨ 16 ≤ (tr.1 1).toNatClampNeg then none else
      some (zpi (zpA tr 0 (upd (tr.2 0) ((tr.1 1).toNatClampNeg) x1)) 1 ((tr.1 1) + (1 : Int32)))
set_option maxHeartbeats 4000000 in
set_option maxRecDepth 100000 in
theorem qX9_leave (l : Launch) (D : va_G) (E : zE) (KL : List Nat) (kc : Nat → zKC) (on : zNS) (rw rd ft tr : zOS) (la : Nat → zLS) (mo : zMS) (N sz : Nat) (x1 : Int32) (out : zOS) (hF : fX9_leave N tr x1 = some out) : zCv l yX9_leave zwX9_leave ({ frames := 0, cells := 0, slots := 0, locals := 0 }) [.ref (E.1 11), .int x1] D E sz (zW E KL kc on rw rd ft tr la mo) (zW E KL kc on rw rd ft out la mo) 0 0 := by
  refine zent_v (cc := cX9_leave) (nL := 2) (by decide) rfl (Nat.le_of_ble_eq_true rfl) ?_
  intro p e s m args below meth c Q A hx hb hml hown hts hA hK hP hD hS hE ls hl hend
  have hown : s.vm.findClass RX9 = some m.cls := hown
  have hl : lv_has ls 2 [(0, .ref (E.1 11)), (1, .int x1)] := hl
  rw [fX9_leave] at hF
  refine lv_aload_n hx hb dX9_leave_0 rfl (lv_at hl 0 rfl) ?_
  refine va_get (D := D) (ci := 8) (v := .int (tr.1 1)) (C := RX9) (T := TX9) (N := 2) hx hb hts (zi iX9) hown hK hP 11 (zg_tr _ _ _ _ _ _ _ _ _ _) rfl 1 (by decide) (zh hts k0_207) (fun _ h9 => h9) rfl dX9_leave_1 ?_
  refine lv_if_lt (tgt := 36) hx hb dX9_leave_4 (by decide) (fun c_1 => ?_) (fun c_1 => ?_)
  · have hF := zit c_1 hF
    obtain rfl := Option.some.inj hF
    exact hend _ _ _ _ hP hD hS dX9_leave_36
  · have hF := zif c_1 hF
    refine lv_aload_n hx hb dX9_leave_7 rfl (lv_at hl 0 rfl) ?_
    refine va_get (D := D) (ci := 8) (v := .int (tr.1 1)) (C := RX9) (T := TX9) (N := 2) hx hb hts (zi iX9) hown hK hP 11 (zg_tr _ _ _ _ _ _ _ _ _ _) rfl 1 (by decide) (zh hts k0_207) (fun _ h9 => h9) rfl dX9_leave_8 ?_
    refine lv_bipush (v := 16) hx hb dX9_leave_11 (by decide) ?_
    refine lv_icmp_ge (tgt := 36) hx hb dX9_leave_13 (by decide) (fun c_2 => ?_) (fun c_2 => ?_)
    · have hF := zit c_2 hF
      obtain rfl := Option.some.inj hF
      exact hend _ _ _ _ hP hD hS dX9_leave_36
    · have hF := zif c_2 hF
      refine lv_aload_n hx hb dX9_leave_16 rfl (lv_at hl 0 rfl) ?_
      refine va_get (D := D) (ci := 8) (v := .ref (E.1 12)) (C := RX9) (T := TX9) (N := 2) hx hb hts (zi iX9) hown hK hP 11 (zg_tr _ _ _ _ _ _ _ _ _ _) rfl 0 (by decide) (zh hts k0_206) (fun _ h9 => h9) rfl dX9_leave_17 ?_
      refine lv_aload_n hx hb dX9_leave_20 rfl (lv_at hl 0 rfl) ?_
      refine va_get (D := D) (ci := 8) (v := .int (tr.1 1)) (C := RX9) (T := TX9) (N := 2) hx hb hts (zi iX9) hown hK hP 11 (zg_tr _ _ _ _ _ _ _ _ _ _) rfl 1 (by decide) (zh hts k0_207) (fun _ h9 => h9) rfl dX9_leave_21 ?_
      refine lv_iload_n hx hb dX9_leave_24 rfl (lv_at hl 1 rfl) ?_
      obtain ⟨g_3, hF⟩ := zgd hF
      refine va_iast hx hb hK hP hD hS 12 1 (zg_tr_0 _ _ _ _ _ _ _ _ _ _) rfl g_3 dX9_leave_25 (fun H locs hP hD hS => ?_)
      rw [zs_tr_0] at hP hD
      have hP : va_P D vwCl (zW E KL kc on rw rd ft (zpA tr 0 (upd (tr.2 0) ((tr.1 1).toNatClampNeg) x1)) la mo) H := hP
      have hD : va_D A (zW E KL kc on rw rd ft (zpA tr 0 (upd (tr.2 0) ((tr.1 1).toNatClampNeg) x1)) la mo) := hD
      refine lv_aload_n hx hb dX9_leave_26 rfl (lv_at hl 0 rfl) ?_
      refine lv_dup hx hb dX9_leave_27 rfl ?_
      refine va_get (D := D) (ci := 8) (v := .int (tr.1 1)) (C := RX9) (T := TX9) (N := 2) hx hb hts (zi iX9) hown hK hP 11 (zg_tr _ _ _ _ _ _ _ _ _ _) rfl 1 (by decide) (zh hts k0_207) (fun _ h9 => h9) rfl dX9_leave_28 ?_
      refine lv_iconst (v := 1) hx hb dX9_leave_31 (by decide) ?_
      refine lv_iadd hx hb dX9_leave_32 ?_
      refine va_put (D := D) (ci := 8) (v := .int ((tr.1 1) + (1 : Int32))) (ty := .int) (C := RX9) (T := TX9) (N := 2) hx hb hts (zi iX9) tyX9 tyX9_ok nmX9 hown hK hP hD hS 11 (zg_tr _ _ _ _ _ _ _ _ _ _) rfl 1 (by decide) (zh hts k0_207) (fun _ h9 => h9) rfl (by decide +kernel) rfl rfl (Nat.le_of_ble_eq_true rfl) dX9_leave_33 (fun H locs hP hD hS => ?_)
      rw [zs_tr_1] at hP hD
      obtain rfl := Option.some.inj hF
      exact hend _ _ _ _ hP hD hS dX9_leave_36
def fX9_at (N : Nat) (tr : zOS) (x1 : Int32) : Option Int32 :=
  if x1 < 0 then
    some (-1000000 : Int32)
  else
    if (tr.1 1) ≤ x1 then
      some (-1000000 : Int32)
    else
      if (16 : Int32) ≤ x1 then
        some (-1000000 : Int32)
      else
        if x1 < 0 ∨ 16 ≤ x1.toNatClampNeg then none else
        some (tr.2 0 x1.toNatClampNeg)
set_option maxHeartbeats 4000000 in
set_option maxRecDepth 100000 in
theorem qX9_at (l : Launch) (D : va_G) (E : zE) (KL : List Nat) (kc : Nat → zKC) (on : zNS) (rw rd ft tr : zOS) (la : Nat → zLS) (mo : zMS) (N sz : Nat) (x1 : Int32) (out : Int32) (hF : fX9_at N tr x1 = some out) : zCi l yX9_at zwX9_at ({ frames := 0, cells := 0, slots := 0, locals := 0 }) [.ref (E.1 11), .int x1] D E sz (zW E KL kc on rw rd ft tr la mo) (zW E KL kc on rw rd ft tr la mo) out 0 0 := by
  refine zent_i (cc := cX9_at) (nL := 2) (by decide) rfl (Nat.le_of_ble_eq_true rfl) ?_
  intro p e s m args below meth c Q A hx hb hml hown hts hA hK hP hD hS hE ls hl hend
  have hown : s.vm.findClass RX9 = some m.cls := hown
  have hl : lv_has ls 2 [(0, .ref (E.1 11)), (1, .int x1)] := hl
  rw [fX9_at] at hF
  refine lv_iload_n hx hb dX9_at_0 rfl (lv_at hl 1 rfl) ?_
  refine lv_if_lt (tgt := 27) hx hb dX9_at_1 (by decide) (fun c_1 => ?_) (fun c_1 => ?_)
  · have hF := zit c_1 hF
    refine lv_ldc (own := RX9) (v := -1000000) hx hb hown (zh hts k4_47) dX9_at_27 ?_
    obtain rfl := Option.some.inj hF
    exact hend _ _ _ _ hP hD hS dX9_at_29
  · have hF := zif c_1 hF
    refine lv_iload_n hx hb dX9_at_4 rfl (lv_at hl 1 rfl) ?_
    refine lv_aload_n hx hb dX9_at_5 rfl (lv_at hl 0 rfl) ?_
    refine va_get (D := D) (ci := 8) (v := .int (tr.1 1)) (C := RX9) (T := TX9) (N := 2) hx hb hts (zi iX9) hown hK hP 11 (zg_tr _ _ _ _ _ _ _ _ _ _) rfl 1 (by decide) (zh hts k0_207) (fun _ h9 => h9) rfl dX9_at_6 ?_
    refine lv_icmp_ge (tgt := 27) hx hb dX9_at_9 (by decide) (fun c_2 => ?_) (fun c_2 => ?_)
    · have hF := zit c_2 hF
      refine lv_ldc (own := RX9) (v := -1000000) hx hb hown (zh hts k4_47) dX9_at_27 ?_
      obtain rfl := Option.some.inj hF
      exact hend _ _ _ _ hP hD hS dX9_at_29
    · have hF := zif c_2 hF
      refine lv_iload_n hx hb dX9_at_12 rfl (lv_at hl 1 rfl) ?_
      refine lv_bipush (v := 16) hx hb dX9_at_13 (by decide) ?_
      refine lv_icmp_ge (tgt := 27) hx hb dX9_at_15 (by decide) (fun c_3 => ?_) (fun c_3 => ?_)
      · have hF := zit c_3 hF
        refine lv_ldc (own := RX9) (v := -1000000) hx hb hown (zh hts k4_47) dX9_at_27 ?_
        obtain rfl := Option.some.inj hF
        exact hend _ _ _ _ hP hD hS dX9_at_29
      · have hF := zif c_3 hF
        refine lv_aload_n hx hb dX9_at_18 rfl (lv_at hl 0 rfl) ?_
        refine va_get (D := D) (ci := 8) (v := .ref (E.1 12)) (C := RX9) (T := TX9) (N := 2) hx hb hts (zi iX9) hown hK hP 11 (zg_tr _ _ _ _ _ _ _ _ _ _) rfl 0 (by decide) (zh hts k0_206) (fun _ h9 => h9) rfl dX9_at_19 ?_
        refine lv_iload_n hx hb dX9_at_22 rfl (lv_at hl 1 rfl) ?_
        obtain ⟨g_4, hF⟩ := zgd hF
        refine ziald (v := tr.2 0 x1.toNatClampNeg) hx hb hK hP 12 1 (zg_tr_0 _ _ _ _ _ _ _ _ _ _) rfl g_4 rfl dX9_at_23 ?_
        refine lv_goto (tgt := 29) hx hb dX9_at_24 (by decide) ?_
        obtain rfl := Option.some.inj hF
        exact hend _ _ _ _ hP hD hS dX9_at_29
def fX11_within (N : Nat) (x0 : Int32) (x1 : Int32) (x2 : Int32) : Option Int32 :=
  if x0 < x1 then
    some (0 : Int32)
  else
    if x2 < x0 then
      some (0 : Int32)
    else
      some (1 : Int32)
set_option maxHeartbeats 4000000 in
set_option maxRecDepth 100000 in
theorem qX11_within (l : Launch) (D : va_G) (E : zE) (KL : List Nat) (kc : Nat → zKC) (on : zNS) (rw rd ft tr : zOS) (la : Nat → zLS) (mo : zMS) (N sz : Nat) (x0 : Int32) (x1 : Int32) (x2 : Int32) (out : Int32) (hF : fX11_within N x0 x1 x2 = some out) : zCi l yX11_within zwX11_within ({ frames := 0, cells := 0, slots := 0, locals := 0 }) [.int x0, .int x1, .int x2] D E sz (zW E KL kc on rw rd ft tr la mo) (zW E KL kc on rw rd ft tr la mo) out 0 0 := by
  refine zent_z (cc := cX11_within) (nL := 3) (by decide) rfl (Nat.le_of_ble_eq_true rfl) ?_
  intro p e s m args below meth c Q A hx hb hml hown hts hA hK hP hD hS hE ls hl hend
  have hown : s.vm.findClass RX11 = some m.cls := hown
  have hl : lv_has ls 3 [(0, .int x0), (1, .int x1), (2, .int x2)] := hl
  rw [fX11_within] at hF
  refine lv_iload_n hx hb dX11_within_0 rfl (lv_at hl 0 rfl) ?_
  refine lv_iload_n hx hb dX11_within_1 rfl (lv_at hl 1 rfl) ?_
  refine lv_icmp_lt (tgt := 14) hx hb dX11_within_2 (by decide) (fun c_1 => ?_) (fun c_1 => ?_)
  · have hF := zit c_1 hF
    refine lv_iconst (v := 0) hx hb dX11_within_14 (by decide) ?_
    obtain rfl := Option.some.inj hF
    exact hend _ _ _ _ znar0 hP hD hS dX11_within_15
  · have hF := zif c_1 hF
    refine lv_iload_n hx hb dX11_within_5 rfl (lv_at hl 0 rfl) ?_
    refine lv_iload_n hx hb dX11_within_6 rfl (lv_at hl 2 rfl) ?_
    refine lv_icmp_gt (tgt := 14) hx hb dX11_within_7 (by decide) (fun c_2 => ?_) (fun c_2 => ?_)
    · have hF := zit c_2 hF
      refine lv_iconst (v := 0) hx hb dX11_within_14 (by decide) ?_
      obtain rfl := Option.some.inj hF
      exact hend _ _ _ _ znar0 hP hD hS dX11_within_15
    · have hF := zif c_2 hF
      refine lv_iconst (v := 1) hx hb dX11_within_10 (by decide) ?_
      refine lv_goto (tgt := 15) hx hb dX11_within_11 (by decide) ?_
      obtain rfl := Option.some.inj hF
      exact hend _ _ _ _ znar1 hP hD hS dX11_within_15
def fX7_put (N : Nat) (rw : zOS) (x1 : Int32) (x2 : Int32) (x3 : Int32) : Option (Int32 × zOS) :=
  (fX7_isPlace N rw x1 x2).bind fun u_1 =>
  if u_1 = 0 then
    some ((0 : Int32), rw)
  else
    if x1 < 0 ∨ 8 ≤ x1.toNatClampNeg then none else
    (fX7_narrowed N (rw.2 0 x1.toNatClampNeg) x3).bind fun u_4 =>
    if ((x1 * (40 : Int32)) + x2) < 0 ∨ 320 ≤ ((x1 * (40 : Int32)) + x2).toNatClampNeg then none else
    if ((x1 * (40 : Int32)) + x2) < 0 ∨ 320 ≤ ((x1 * (40 : Int32)) + x2).toNatClampNeg then none else
    some ((upd (rw.2 2) (((x1 * (40 : Int32)) + x2).toNatClampNeg) u_4) (((x1 * (40 : Int32)) + x2).toNatClampNeg), zpA rw 2 (upd (rw.2 2) (((x1 * (40 : Int32)) + x2).toNatClampNeg) u_4))
set_option maxHeartbeats 4000000 in
set_option maxRecDepth 100000 in
theorem qX7_put (l : Launch) (D : va_G) (E : zE) (KL : List Nat) (kc : Nat → zKC) (on : zNS) (rw rd ft tr : zOS) (la : Nat → zLS) (mo : zMS) (N sz : Nat) (x1 : Int32) (x2 : Int32) (x3 : Int32) (out : Int32 × zOS) (hF : fX7_put N rw x1 x2 x3 = some out) : zCi l yX7_put zwX7_put ({ frames := 2, cells := 0, slots := 0, locals := 42 }) [.ref (E.1 1), .int x1, .int x2, .int x3] D E sz (zW E KL kc on rw rd ft tr la mo) (zW E KL kc on out.2 rd ft tr la mo) out.1 0 0 := by
  refine zent_i (cc := cX7_put) (nL := 4) (by decide) rfl (Nat.le_of_ble_eq_true rfl) ?_
  intro p e s m args below meth c Q A hx hb hml hown hts hA hK hP hD hS hE ls hl hend
  have hown : s.vm.findClass RX7 = some m.cls := hown
  have hl : lv_has ls 4 [(0, .ref (E.1 1)), (1, .int x1), (2, .int x2), (3, .int x3)] := hl
  rw [fX7_put] at hF
  refine lv_aload_n hx hb dX7_put_0 rfl (lv_at hl 0 rfl) ?_
  refine lv_iload_n hx hb dX7_put_1 rfl (lv_at hl 1 rfl) ?_
  refine lv_iload_n hx hb dX7_put_2 rfl (lv_at hl 2 rfl) ?_
  obtain ⟨u_1, hu_1, hF⟩ := zbd hF
  refine zcall_i (va_runV (As := [.int x1, .int x2]) (rest := []) ⟨hx, hb, hml, hown, hts⟩ (qX7_isPlace l D E KL kc on rw rd ft tr la mo N _ x1 x2 _ hu_1) (cwV 2 hts (zgV k1_50 k1_43 k1_44 k0_2 k1_45) rfl rfl rfl (by decide +kernel) ⟨Nat.le_of_ble_eq_true rfl, Nat.le_of_ble_eq_true rfl⟩) (zpv hE hS hA hK hP hD (va_recv hK hP (ci := 6) (q0 := 1) rfl (zg_rw _ _ _ _ _ _ _ _ _ _))) rfl rfl hl.1 rfl (lv_room (Nat.le_of_ble_eq_true rfl)) dX7_put_3 ⟨Nat.zero_le _, Nat.zero_le _⟩) hD hS hA (fun H locs hP hD hS => ?_)
  refine lv_if_ne (tgt := 11) hx hb dX7_put_6 (by decide) (fun c_2 => ?_) (fun c_2 => ?_)
  · have hF := zif c_2 hF
    refine lv_aload_n hx hb dX7_put_11 rfl (lv_at hl 0 rfl) ?_
    refine va_get (D := D) (ci := 6) (v := .ref (E.1 4)) (C := RX7) (T := TX7) (N := 3) hx hb hts (zi iX7) hown hK hP 1 (zg_rw _ _ _ _ _ _ _ _ _ _) rfl 2 (by decide) (zh hts k0_40) (fun _ h9 => h9) rfl dX7_put_12 ?_
    refine lv_iload_n hx hb dX7_put_15 rfl (lv_at hl 1 rfl) ?_
    refine lv_bipush (v := 40) hx hb dX7_put_16 (by decide) ?_
    refine lv_imul hx hb dX7_put_18 ?_
    refine lv_iload_n hx hb dX7_put_19 rfl (lv_at hl 2 rfl) ?_
    refine lv_iadd hx hb dX7_put_20 ?_
    refine lv_aload_n hx hb dX7_put_21 rfl (lv_at hl 0 rfl) ?_
    refine va_get (D := D) (ci := 6) (v := .ref (E.1 2)) (C := RX7) (T := TX7) (N := 3) hx hb hts (zi iX7) hown hK hP 1 (zg_rw _ _ _ _ _ _ _ _ _ _) rfl 0 (by decide) (zh hts k0_38) (fun _ h9 => h9) rfl dX7_put_22 ?_
    refine lv_iload_n hx hb dX7_put_25 rfl (lv_at hl 1 rfl) ?_
    obtain ⟨g_3, hF⟩ := zgd hF
    refine ziald (v := rw.2 0 x1.toNatClampNeg) hx hb hK hP 2 1 (zg_rw_0 _ _ _ _ _ _ _ _ _ _) rfl g_3 rfl dX7_put_26 ?_
    refine lv_iload_n hx hb dX7_put_27 rfl (lv_at hl 3 rfl) ?_
    obtain ⟨u_4, hu_4, hF⟩ := zbd hF
    refine zcall_i (va_runS (As := [.int (rw.2 0 x1.toNatClampNeg), .int x3]) (rest := [.int ((x1 * (40 : Int32)) + x2), .ref (E.1 4)]) ⟨hx, hb, hml, hown, hts⟩ (qX7_narrowed l D E KL kc on rw rd ft tr la mo N _ (rw.2 0 x1.toNatClampNeg) x3 _ hu_4) (va_cwS 2 hts (zgS k1_51 k1_52 k0_2 k1_53) rfl rfl rfl (by decide +kernel) ⟨Nat.le_of_ble_eq_true rfl, Nat.le_of_ble_eq_true rfl⟩) (zps hE hS hA hK hP hD) rfl rfl hl.1 rfl (lv_room (Nat.le_of_ble_eq_true rfl)) dX7_put_28 ⟨Nat.zero_le _, Nat.zero_le _⟩) hD hS hA (fun H locs hP hD hS => ?_)
    obtain ⟨g_5, hF⟩ := zgd hF
    refine va_iast hx hb hK hP hD hS 4 1 (zg_rw_2 _ _ _ _ _ _ _ _ _ _) rfl g_5 dX7_put_31 (fun H locs hP hD hS => ?_)
    rw [zs_rw_2] at hP hD
    have hP : va_P D vwCl (zW E KL kc on (zpA rw 2 (upd (rw.2 2) (((x1 * (40 : Int32)) + x2).toNatClampNeg) u_4)) rd ft tr la mo) H := hP
    have hD : va_D A (zW E KL kc on (zpA rw 2 (upd (rw.2 2) (((x1 * (40 : Int32)) + x2).toNatClampNeg) u_4)) rd ft tr la mo) := hD
    refine lv_aload_n hx hb dX7_put_32 rfl (lv_at hl 0 rfl) ?_
    refine va_get (D := D) (ci := 6) (v := .ref (E.1 4)) (C := RX7) (T := TX7) (N := 3) hx hb hts (zi iX7) hown hK hP 1 (zg_rw _ _ _ _ _ _ _ _ _ _) rfl 2 (by decide) (zh hts k0_40) (fun _ h9 => h9) rfl dX7_put_33 ?_
    refine lv_iload_n hx hb dX7_put_36 rfl (lv_at hl 1 rfl) ?_
    refine lv_bipush (v := 40) hx hb dX7_put_37 (by decide) ?_
    refine lv_imul hx hb dX7_put_39 ?_
    refine lv_iload_n hx hb dX7_put_40 rfl (lv_at hl 2 rfl) ?_
    refine lv_iadd hx hb dX7_put_41 ?_
    obtain ⟨g_6, hF⟩ := zgd hF
    refine ziald (v := (upd (rw.2 2) (((x1 * (40 : Int32)) + x2).toNatClampNeg) u_4) (((x1 * (40 : Int32)) + x2).toNatClampNeg)) hx hb hK hP 4 1 (zg_rw_2 _ _ _ _ _ _ _ _ _ _) rfl g_6 rfl dX7_put_42 ?_
    obtain rfl := Option.some.inj hF
    exact hend _ _ _ _ hP hD hS dX7_put_43
  · have hF := zit c_2 hF
    refine lv_iconst (v := 0) hx hb dX7_put_9 (by decide) ?_
    obtain rfl := Option.some.inj hF
    exact hend _ _ _ _ hP hD hS dX7_put_10
