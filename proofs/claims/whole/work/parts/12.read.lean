def fX6_append_l1 (N : Nat) (x1_3 : Int64) : Nat → Int32 → zOS → Option zOS
  | 0, _, _ => none
  | n + 1, x4_4, rd_5 =>
    if x4_4 < 0 then
      some rd_5
    else
      if (rd_5.1 0) < 0 ∨ 500 ≤ (rd_5.1 0).toNatClampNeg then none else
      fX6_append_l1 N x1_3 n (x4_4 + (-1 : Int32)) (zpi (zpA rd_5 3 (upd (rd_5.2 3) ((rd_5.1 0).toNatClampNeg) (vp_nar .byte (((x1_3 >>> (((8 : Int32) * x4_4).toInt64 &&& 63)).toInt32).toInt8.toInt32)))) 0 ((rd_5.1 0) + (1 : Int32)))
def fX6_append (N : Nat) (rd : zOS) (x1 : Int64) (x3 : Int32) : Option (Int32 × zOS) :=
  if x3 < 0 then
    some ((0 : Int32), rd)
  else
    if x3 ≤ ((500 : Int32) - (rd.1 0)) then
      (fX6_append_l1 N x1 N (x3 - (1 : Int32)) rd).bind (fun u_10 =>
        some ((1 : Int32), u_10))
    else
      some ((0 : Int32), rd)
set_option maxHeartbeats 4000000 in
set_option maxRecDepth 100000 in
theorem qX6_append (l : Launch) (D : va_G) (E : zE) (KL : List Nat) (kc : Nat → zKC) (on : zNS) (rw rd ft tr : zOS) (la : Nat → zLS) (mo : zMS) (N sz : Nat) (x1 : Int64) (x3 : Int32) (out : Int32 × zOS) (hF : fX6_append N rd x1 x3 = some out) : zCi l yX6_append zwX6_append ({ frames := 0, cells := 0, slots := 0, locals := 0 }) [.ref (E.1 5), .long x1, .int x3] D E sz (zW E KL kc on rw rd ft tr la mo) (zW E KL kc on rw out.2 ft tr la mo) out.1 0 0 := by
  refine zent_z (cc := cX6_append) (nL := 5) (by decide) rfl (Nat.le_of_ble_eq_true rfl) ?_
  intro p e s m args below meth c Q A hx hb hml hown hts hA hK hP hD hS hE ls hl hend
  have hown : s.vm.findClass RX6 = some m.cls := hown
  have hl : lv_has ls 5 [(0, .ref (E.1 5)), (1, .long x1), (3, .int x3)] := hl
  rw [fX6_append] at hF
  refine lv_iload_n hx hb dX6_append_0 rfl (lv_at hl 2 rfl) ?_
  refine lv_if_lt (tgt := 16) hx hb dX6_append_1 (by decide) (fun c_1 => ?_) (fun c_1 => ?_)
  · have hF := zit c_1 hF
    refine lv_iconst (v := 0) hx hb dX6_append_16 (by decide) ?_
    obtain rfl := Option.some.inj hF
    exact hend _ _ _ _ znar0 hP hD hS dX6_append_17
  · have hF := zif c_1 hF
    refine lv_iload_n hx hb dX6_append_4 rfl (lv_at hl 2 rfl) ?_
    refine lv_sipush (v := 500) hx hb dX6_append_5 (by decide) ?_
    refine lv_aload_n hx hb dX6_append_8 rfl (lv_at hl 0 rfl) ?_
    refine va_get (D := D) (ci := 5) (v := .int (rd.1 0)) (C := RX6) (T := TX6) (N := 8) hx hb hts (zi iX6) hown hK hP 5 (zg_rd _ _ _ _ _ _ _ _ _ _) rfl 0 (by decide) (zh hts k0_55) (fun _ h9 => h9) rfl dX6_append_9 ?_
    refine lv_isub hx hb dX6_append_12 ?_
    refine lv_icmp_le (tgt := 18) hx hb dX6_append_13 (by decide) (fun c_2 => ?_) (fun c_2 => ?_)
    · have hF := zit c_2 hF
      refine lv_iload_n hx hb dX6_append_18 rfl (lv_at hl 2 rfl) ?_
      refine lv_iconst (v := 1) hx hb dX6_append_19 (by decide) ?_
      refine lv_isub hx hb dX6_append_20 ?_
      refine lv_istore (lv' := [(4, .int (x3 - (1 : Int32))), (0, .ref (E.1 5)), (1, .long x1), (3, .int x3)]) hx hb dX6_append_21 hl (by decide) rfl (fun ls hl => ?_)
      obtain ⟨o_8, ho_8, hF⟩ := zbd hF
      have kx_1_0 : ∀ (rd_9 : zOS), rd_9 = o_8 → ∀ (H : Heap) (locs : List Loc) (ls : Array Slot), va_P D vwCl (zW E KL kc on rw rd_9 ft tr la mo) H → va_D A (zW E KL kc on rw rd_9 ft tr la mo) → va_S A s.heap H locs → lv_has ls 5 [] → W p l e ({ frames := 0, cells := 0, slots := 0, locals := 0 } : Room) s m args below meth c H locs 0 0 Q (F0 m 62 ls []) := by
        intro rd_9 ho H locs ls hP hD hS hl
        subst ho
        refine lv_iconst (v := 1) hx hb dX6_append_62 (by decide) ?_
        obtain rfl := Option.some.inj hF
        exact hend _ _ _ _ znar1 hP hD hS dX6_append_63
      have lp_1 : ∀ (x1_3 : Int64) (n : Nat) (x4_4 : Int32) (rd_5 : zOS) (o : zOS), fX6_append_l1 N x1_3 n x4_4 rd_5 = some o → (∀ (rd_9 : zOS), rd_9 = o → ∀ (H : Heap) (locs : List Loc) (ls : Array Slot), va_P D vwCl (zW E KL kc on rw rd_9 ft tr la mo) H → va_D A (zW E KL kc on rw rd_9 ft tr la mo) → va_S A s.heap H locs → lv_has ls 5 [] → W p l e ({ frames := 0, cells := 0, slots := 0, locals := 0 } : Room) s m args below meth c H locs 0 0 Q (F0 m 62 ls [])) → ∀ (H : Heap) (locs : List Loc) (ls : Array Slot), va_P D vwCl (zW E KL kc on rw rd_5 ft tr la mo) H → va_D A (zW E KL kc on rw rd_5 ft tr la mo) → va_S A s.heap H locs → lv_has ls 5 [(0, .ref (E.1 5)), (1, .long x1_3), (4, .int x4_4)] → W p l e ({ frames := 0, cells := 0, slots := 0, locals := 0 } : Room) s m args below meth c H locs 0 0 Q (F0 m 23 ls []) := by
        intro x1_3 n
        induction n with
        | zero =>
          intro x4_4 rd_5 o hF
          exact znone hF
        | succ n ih =>
          intro x4_4 rd_5 o hF kx_1_0 H locs ls hP hD hS hl
          rw [fX6_append_l1] at hF
          refine lv_iload hx hb dX6_append_23 (lv_at hl 2 rfl) ?_
          refine lv_if_lt (tgt := 62) hx hb dX6_append_25 (by decide) (fun c_6 => ?_) (fun c_6 => ?_)
          · have hF := zit c_6 hF
            exact kx_1_0 rd_5 (Option.some.inj hF) _ _ _ hP hD hS (lv_sub hl [] rfl)
          · have hF := zif c_6 hF
            refine lv_aload_n hx hb dX6_append_28 rfl (lv_at hl 0 rfl) ?_
            refine va_get (D := D) (ci := 5) (v := .ref (E.1 6)) (C := RX6) (T := TX6) (N := 8) hx hb hts (zi iX6) hown hK hP 5 (zg_rd _ _ _ _ _ _ _ _ _ _) rfl 3 (by decide) (zh hts k0_61) (fun _ h9 => h9) rfl dX6_append_29 ?_
            refine lv_aload_n hx hb dX6_append_32 rfl (lv_at hl 0 rfl) ?_
            refine va_get (D := D) (ci := 5) (v := .int (rd_5.1 0)) (C := RX6) (T := TX6) (N := 8) hx hb hts (zi iX6) hown hK hP 5 (zg_rd _ _ _ _ _ _ _ _ _ _) rfl 0 (by decide) (zh hts k0_55) (fun _ h9 => h9) rfl dX6_append_33 ?_
            refine lv_lload_n hx hb dX6_append_36 rfl (lv_at hl 1 rfl) ?_
            refine lv_bipush (v := 8) hx hb dX6_append_37 (by decide) ?_
            refine lv_iload hx hb dX6_append_39 (lv_at hl 2 rfl) ?_
            refine lv_imul hx hb dX6_append_41 ?_
            refine lv_lshr hx hb dX6_append_42 rfl ?_
            refine lv_l2i hx hb dX6_append_43 rfl ?_
            refine lv_i2b hx hb dX6_append_44 rfl ?_
            obtain ⟨g_7, hF⟩ := zgd hF
            refine va_bast hx hb hK hP hD hS 6 0 (zg_rd_3 _ _ _ _ _ _ _ _ _ _) rfl g_7 dX6_append_45 (fun H locs hP hD hS => ?_)
            rw [zs_rd_3] at hP hD
            have hP : va_P D vwCl (zW E KL kc on rw (zpA rd_5 3 (upd (rd_5.2 3) ((rd_5.1 0).toNatClampNeg) (vp_nar .byte (((x1_3 >>> (((8 : Int32) * x4_4).toInt64 &&& 63)).toInt32).toInt8.toInt32)))) ft tr la mo) H := hP
            have hD : va_D A (zW E KL kc on rw (zpA rd_5 3 (upd (rd_5.2 3) ((rd_5.1 0).toNatClampNeg) (vp_nar .byte (((x1_3 >>> (((8 : Int32) * x4_4).toInt64 &&& 63)).toInt32).toInt8.toInt32)))) ft tr la mo) := hD
            refine lv_aload_n hx hb dX6_append_46 rfl (lv_at hl 0 rfl) ?_
            refine lv_dup hx hb dX6_append_47 rfl ?_
            refine va_get (D := D) (ci := 5) (v := .int (rd_5.1 0)) (C := RX6) (T := TX6) (N := 8) hx hb hts (zi iX6) hown hK hP 5 (zg_rd _ _ _ _ _ _ _ _ _ _) rfl 0 (by decide) (zh hts k0_55) (fun _ h9 => h9) rfl dX6_append_48 ?_
            refine lv_iconst (v := 1) hx hb dX6_append_51 (by decide) ?_
            refine lv_iadd hx hb dX6_append_52 ?_
            refine va_put (D := D) (ci := 5) (v := .int ((rd_5.1 0) + (1 : Int32))) (ty := .int) (C := RX6) (T := TX6) (N := 8) hx hb hts (zi iX6) tyX6 tyX6_ok nmX6 hown hK hP hD hS 5 (zg_rd _ _ _ _ _ _ _ _ _ _) rfl 0 (by decide) (zh hts k0_55) (fun _ h9 => h9) rfl (by decide +kernel) rfl rfl (Nat.le_of_ble_eq_true rfl) dX6_append_53 (fun H locs hP hD hS => ?_)
            rw [zs_rd_0] at hP hD
            refine lv_iinc (v := x4_4 + (-1 : Int32)) (lv' := [(4, .int (x4_4 + (-1 : Int32))), (0, .ref (E.1 5)), (1, .long x1_3)]) hx hb dX6_append_56 hl (k := 2) rfl rfl (by decide) rfl (fun ls hl => ?_)
            refine lv_goto (tgt := 23) hx hb dX6_append_59 (by decide) ?_
            exact ih (x4_4 + (-1 : Int32)) (zpi (zpA rd_5 3 (upd (rd_5.2 3) ((rd_5.1 0).toNatClampNeg) (vp_nar .byte (((x1_3 >>> (((8 : Int32) * x4_4).toInt64 &&& 63)).toInt32).toInt8.toInt32)))) 0 ((rd_5.1 0) + (1 : Int32))) _ hF kx_1_0 _ _ _ hP hD hS (lv_sub hl [1, 2, 0] rfl)
      exact lp_1 x1 N (x3 - (1 : Int32)) rd _ ho_8 kx_1_0 _ _ _ hP hD hS (lv_sub hl [1, 2, 0] rfl)
    · have hF := zif c_2 hF
      refine lv_iconst (v := 0) hx hb dX6_append_16 (by decide) ?_
      obtain rfl := Option.some.inj hF
      exact hend _ _ _ _ znar0 hP hD hS dX6_append_17
def fX6_empty (N : Nat) (rd : zOS) : Option zOS :=
  some (zpi rd 0 (0 : Int32))
set_option maxHeartbeats 4000000 in
set_option maxRecDepth 100000 in
theorem qX6_empty (l : Launch) (D : va_G) (E : zE) (KL : List Nat) (kc : Nat → zKC) (on : zNS) (rw rd ft tr : zOS) (la : Nat → zLS) (mo : zMS) (N sz : Nat)  (out : zOS) (hF : fX6_empty N rd = some out) : zCv l yX6_empty zwX6_empty ({ frames := 0, cells := 0, slots := 0, locals := 0 }) [.ref (E.1 5)] D E sz (zW E KL kc on rw rd ft tr la mo) (zW E KL kc on rw out ft tr la mo) 0 0 := by
  refine zent_v (cc := cX6_empty) (nL := 1) (by decide) rfl (Nat.le_of_ble_eq_true rfl) ?_
  intro p e s m args below meth c Q A hx hb hml hown hts hA hK hP hD hS hE ls hl hend
  have hown : s.vm.findClass RX6 = some m.cls := hown
  have hl : lv_has ls 1 [(0, .ref (E.1 5))] := hl
  rw [fX6_empty] at hF
  refine lv_aload_n hx hb dX6_empty_0 rfl (lv_at hl 0 rfl) ?_
  refine lv_iconst (v := 0) hx hb dX6_empty_1 (by decide) ?_
  refine va_put (D := D) (ci := 5) (v := .int (0 : Int32)) (ty := .int) (C := RX6) (T := TX6) (N := 8) hx hb hts (zi iX6) tyX6 tyX6_ok nmX6 hown hK hP hD hS 5 (zg_rd _ _ _ _ _ _ _ _ _ _) rfl 0 (by decide) (zh hts k0_55) (fun _ h9 => h9) rfl (by decide +kernel) rfl rfl (Nat.le_of_ble_eq_true rfl) dX6_empty_2 (fun H locs hP hD hS => ?_)
  rw [zs_rd_0] at hP hD
  obtain rfl := Option.some.inj hF
  exact hend _ _ _ _ hP hD hS dX6_empty_5
def fX6_stick (N : Nat) (rd : zOS) (x1 : Int32) : Option zOS :=
  if (rd.1 4) = (6 : Int32) then
    some rd
  else
    some (zpi (zpi (zpi rd 4 (6 : Int32)) 1 x1) 2 (rd.1 5))
set_option maxHeartbeats 4000000 in
set_option maxRecDepth 100000 in
theorem qX6_stick (l : Launch) (D : va_G) (E : zE) (KL : List Nat) (kc : Nat → zKC) (on : zNS) (rw rd ft tr : zOS) (la : Nat → zLS) (mo : zMS) (N sz : Nat) (x1 : Int32) (out : zOS) (hF : fX6_stick N rd x1 = some out) : zCv l yX6_stick zwX6_stick ({ frames := 0, cells := 0, slots := 0, locals := 0 }) [.ref (E.1 5), .int x1] D E sz (zW E KL kc on rw rd ft tr la mo) (zW E KL kc on rw out ft tr la mo) 0 0 := by
  refine zent_v (cc := cX6_stick) (nL := 2) (by decide) rfl (Nat.le_of_ble_eq_true rfl) ?_
  intro p e s m args below meth c Q A hx hb hml hown hts hA hK hP hD hS hE ls hl hend
  have hown : s.vm.findClass RX6 = some m.cls := hown
  have hl : lv_has ls 2 [(0, .ref (E.1 5)), (1, .int x1)] := hl
  rw [fX6_stick] at hF
  refine lv_aload_n hx hb dX6_stick_0 rfl (lv_at hl 0 rfl) ?_
  refine va_get (D := D) (ci := 5) (v := .int (rd.1 4)) (C := RX6) (T := TX6) (N := 8) hx hb hts (zi iX6) hown hK hP 5 (zg_rd _ _ _ _ _ _ _ _ _ _) rfl 4 (by decide) (zh hts k0_62) (fun _ h9 => h9) rfl dX6_stick_1 ?_
  refine lv_bipush (v := 6) hx hb dX6_stick_4 (by decide) ?_
  refine lv_icmp_eq (tgt := 28) hx hb dX6_stick_6 (by decide) (fun c_1 => ?_) (fun c_1 => ?_)
  · have hF := zit c_1 hF
    obtain rfl := Option.some.inj hF
    exact hend _ _ _ _ hP hD hS dX6_stick_28
  · have hF := zif c_1 hF
    refine lv_aload_n hx hb dX6_stick_9 rfl (lv_at hl 0 rfl) ?_
    refine lv_bipush (v := 6) hx hb dX6_stick_10 (by decide) ?_
    refine va_put (D := D) (ci := 5) (v := .int (6 : Int32)) (ty := .int) (C := RX6) (T := TX6) (N := 8) hx hb hts (zi iX6) tyX6 tyX6_ok nmX6 hown hK hP hD hS 5 (zg_rd _ _ _ _ _ _ _ _ _ _) rfl 4 (by decide) (zh hts k0_62) (fun _ h9 => h9) rfl (by decide +kernel) rfl rfl (Nat.le_of_ble_eq_true rfl) dX6_stick_12 (fun H locs hP hD hS => ?_)
    rw [zs_rd_4] at hP hD
    refine lv_aload_n hx hb dX6_stick_15 rfl (lv_at hl 0 rfl) ?_
    refine lv_iload_n hx hb dX6_stick_16 rfl (lv_at hl 1 rfl) ?_
    refine va_put (D := D) (ci := 5) (v := .int x1) (ty := .int) (C := RX6) (T := TX6) (N := 8) hx hb hts (zi iX6) tyX6 tyX6_ok nmX6 hown hK hP hD hS 5 (zg_rd _ _ _ _ _ _ _ _ _ _) rfl 1 (by decide) (zh hts k0_58) (fun _ h9 => h9) rfl (by decide +kernel) rfl rfl (Nat.le_of_ble_eq_true rfl) dX6_stick_17 (fun H locs hP hD hS => ?_)
    rw [zs_rd_1] at hP hD
    refine lv_aload_n hx hb dX6_stick_20 rfl (lv_at hl 0 rfl) ?_
    refine lv_aload_n hx hb dX6_stick_21 rfl (lv_at hl 0 rfl) ?_
    refine va_get (D := D) (ci := 5) (v := .int (rd.1 5)) (C := RX6) (T := TX6) (N := 8) hx hb hts (zi iX6) hown hK hP 5 (zg_rd _ _ _ _ _ _ _ _ _ _) rfl 5 (by decide) (zh hts k0_63) (fun _ h9 => h9) rfl dX6_stick_22 ?_
    refine va_put (D := D) (ci := 5) (v := .int (rd.1 5)) (ty := .int) (C := RX6) (T := TX6) (N := 8) hx hb hts (zi iX6) tyX6 tyX6_ok nmX6 hown hK hP hD hS 5 (zg_rd _ _ _ _ _ _ _ _ _ _) rfl 2 (by decide) (zh hts k0_60) (fun _ h9 => h9) rfl (by decide +kernel) rfl rfl (Nat.le_of_ble_eq_true rfl) dX6_stick_25 (fun H locs hP hD hS => ?_)
    rw [zs_rd_2] at hP hD
    obtain rfl := Option.some.inj hF
    exact hend _ _ _ _ hP hD hS dX6_stick_28
def fX6_isWord_l1 (N : Nat) (x1 : Nat) (rd_5 : zOS) : Nat → Int32 → Option (Sum Unit Unit)
  | 0, _ => none
  | n + 1, x2_4 =>
    (fJ0_length_8abf5 N x1).bind fun u_6 =>
    if u_6 ≤ x2_4 then
      some (Sum.inl ())
    else
      if (rd_5.1 0) ≤ ((rd_5.1 5) + x2_4) then
        some (Sum.inl ())
      else
        if ((rd_5.1 5) + x2_4) < 0 ∨ 500 ≤ ((rd_5.1 5) + x2_4).toNatClampNeg then none else
        (fJ0_charAt_5068e N x1 x2_4).bind fun u_10 =>
        if (rd_5.2 3 (((rd_5.1 5) + x2_4).toNatClampNeg)) = u_10 then
          fX6_isWord_l1 N x1 rd_5 n (x2_4 + (1 : Int32))
        else
          some (Sum.inr ())
def fX6_isWord (N : Nat) (rd : zOS) (x1 : Nat) : Option Int32 :=
  if (rd.1 4) = (1 : Int32) then
    (fJ0_length_8abf5 N x1).bind fun u_2 =>
    if ((rd.1 6) - (rd.1 5)) = u_2 then
      (fX6_isWord_l1 N x1 rd N (0 : Int32)).bind (Sum.elim (fun _ =>
        some (1 : Int32))
      (fun _ =>
        some (0 : Int32)))
    else
      some (0 : Int32)
  else
    some (0 : Int32)
set_option maxHeartbeats 4000000 in
set_option maxRecDepth 100000 in
theorem qX6_isWord (l : Launch) (D : va_G) (E : zE) (KL : List Nat) (kc : Nat → zKC) (on : zNS) (rw rd ft tr : zOS) (la : Nat → zLS) (mo : zMS) (N sz : Nat) (x1 : Nat) (out : Int32) (hF : fX6_isWord N rd x1 = some out) : zCi l yX6_isWord zwX6_isWord ({ frames := 4, cells := 0, slots := 0, locals := 85 }) [.ref (E.1 5), .ref (E.2.2.2.2.2.1 x1)] D E sz (zW E KL kc on rw rd ft tr la mo) (zW E KL kc on rw rd ft tr la mo) out 0 0 := by
  refine zent_z (cc := cX6_isWord) (nL := 3) (by decide) rfl (Nat.le_of_ble_eq_true rfl) ?_
  intro p e s m args below meth c Q A hx hb hml hown hts hA hK hP hD hS hE ls hl hend
  have hown : s.vm.findClass RX6 = some m.cls := hown
  have hl : lv_has ls 3 [(0, .ref (E.1 5)), (1, .ref (E.2.2.2.2.2.1 x1))] := hl
  rw [fX6_isWord] at hF
  refine lv_aload_n hx hb dX6_isWord_0 rfl (lv_at hl 0 rfl) ?_
  refine va_get (D := D) (ci := 5) (v := .int (rd.1 4)) (C := RX6) (T := TX6) (N := 8) hx hb hts (zi iX6) hown hK hP 5 (zg_rd _ _ _ _ _ _ _ _ _ _) rfl 4 (by decide) (zh hts k0_62) (fun _ h9 => h9) rfl dX6_isWord_1 ?_
  refine lv_iconst (v := 1) hx hb dX6_isWord_4 (by decide) ?_
  refine lv_icmp_ne (tgt := 24) hx hb dX6_isWord_5 (by decide) (fun c_1 => ?_) (fun c_1 => ?_)
  · have hF := zif c_1 hF
    refine lv_iconst (v := 0) hx hb dX6_isWord_24 (by decide) ?_
    obtain rfl := Option.some.inj hF
    exact hend _ _ _ _ znar0 hP hD hS dX6_isWord_25
  · have hF := zit c_1 hF
    refine lv_aload_n hx hb dX6_isWord_8 rfl (lv_at hl 0 rfl) ?_
    refine va_get (D := D) (ci := 5) (v := .int (rd.1 6)) (C := RX6) (T := TX6) (N := 8) hx hb hts (zi iX6) hown hK hP 5 (zg_rd _ _ _ _ _ _ _ _ _ _) rfl 6 (by decide) (zh hts k0_64) (fun _ h9 => h9) rfl dX6_isWord_9 ?_
    refine lv_aload_n hx hb dX6_isWord_12 rfl (lv_at hl 0 rfl) ?_
    refine va_get (D := D) (ci := 5) (v := .int (rd.1 5)) (C := RX6) (T := TX6) (N := 8) hx hb hts (zi iX6) hown hK hP 5 (zg_rd _ _ _ _ _ _ _ _ _ _) rfl 5 (by decide) (zh hts k0_63) (fun _ h9 => h9) rfl dX6_isWord_13 ?_
    refine lv_isub hx hb dX6_isWord_16 ?_
    refine lv_aload_n hx hb dX6_isWord_17 rfl (lv_at hl 1 rfl) ?_
    obtain ⟨u_2, hu_2, hF⟩ := zbd hF
    refine zcall_i (va_runV (As := []) (rest := [.int ((rd.1 6) - (rd.1 5))]) ⟨hx, hb, hml, hown, hts⟩ (qJ0_length_8abf5 l D E KL kc on rw rd ft tr la mo N _ x1 _ hu_2) (cwV 0 hts (zgV k1_134 k1_135 k1_136 k0_11 k1_137) rfl rfl rfl (by decide +kernel) ⟨Nat.le_of_ble_eq_true rfl, Nat.le_of_ble_eq_true rfl⟩) (zpv hE hS hA hK hP hD (vk_recv hE.1 (zlen_lt hu_2) hS)) rfl rfl hl.1 rfl (lv_room (Nat.le_of_ble_eq_true rfl)) dX6_isWord_18 ⟨Nat.zero_le _, Nat.zero_le _⟩) hD hS hA (fun H locs hP hD hS => ?_)
    refine lv_icmp_eq (tgt := 26) hx hb dX6_isWord_21 (by decide) (fun c_3 => ?_) (fun c_3 => ?_)
    · have hF := zit c_3 hF
      refine lv_iconst (v := 0) hx hb dX6_isWord_26 (by decide) ?_
      refine lv_istore_n (lv' := [(2, .int (0 : Int32)), (0, .ref (E.1 5)), (1, .ref (E.2.2.2.2.2.1 x1))]) hx hb dX6_isWord_27 rfl hl (by decide) rfl (fun ls hl => ?_)
      obtain ⟨o_12, ho_12, hF⟩ := zbd hF
      have kx_1_0 : (Sum.inl ()) = o_12 → ∀ (H : Heap) (locs : List Loc) (ls : Array Slot), va_P D vwCl (zW E KL kc on rw rd ft tr la mo) H → va_D A (zW E KL kc on rw rd ft tr la mo) → va_S A s.heap H locs → lv_has ls 3 [] → W p l e ({ frames := 4, cells := 0, slots := 0, locals := 85 } : Room) s m args below meth c H locs 0 0 Q (F0 m 76 ls []) := by
        intro ho H locs ls hP hD hS hl
        subst ho
        have hF := zinl hF
        refine lv_iconst (v := 1) hx hb dX6_isWord_76 (by decide) ?_
        obtain rfl := Option.some.inj hF
        exact hend _ _ _ _ znar1 hP hD hS dX6_isWord_77
      have kx_1_1 : (Sum.inr ()) = o_12 → ∀ (H : Heap) (locs : List Loc) (ls : Array Slot), va_P D vwCl (zW E KL kc on rw rd ft tr la mo) H → va_D A (zW E KL kc on rw rd ft tr la mo) → va_S A s.heap H locs → lv_has ls 3 [] → W p l e ({ frames := 4, cells := 0, slots := 0, locals := 85 } : Room) s m args below meth c H locs 0 0 Q (F0 m 68 ls []) := by
        intro ho H locs ls hP hD hS hl
        subst ho
        have hF := zinr hF
        refine lv_iconst (v := 0) hx hb dX6_isWord_68 (by decide) ?_
        obtain rfl := Option.some.inj hF
        exact hend _ _ _ _ znar0 hP hD hS dX6_isWord_69
      have lp_1 : ∀ (rd_5 : zOS) (n : Nat) (x2_4 : Int32) (o : (Sum Unit Unit)), fX6_isWord_l1 N x1 rd_5 n x2_4 = some o → ((Sum.inl ()) = o → ∀ (H : Heap) (locs : List Loc) (ls : Array Slot), va_P D vwCl (zW E KL kc on rw rd_5 ft tr la mo) H → va_D A (zW E KL kc on rw rd_5 ft tr la mo) → va_S A s.heap H locs → lv_has ls 3 [] → W p l e ({ frames := 4, cells := 0, slots := 0, locals := 85 } : Room) s m args below meth c H locs 0 0 Q (F0 m 76 ls [])) → ((Sum.inr ()) = o → ∀ (H : Heap) (locs : List Loc) (ls : Array Slot), va_P D vwCl (zW E KL kc on rw rd_5 ft tr la mo) H → va_D A (zW E KL kc on rw rd_5 ft tr la mo) → va_S A s.heap H locs → lv_has ls 3 [] → W p l e ({ frames := 4, cells := 0, slots := 0, locals := 85 } : Room) s m args below meth c H locs 0 0 Q (F0 m 68 ls [])) → ∀ (H : Heap) (locs : List Loc) (ls : Array Slot), va_P D vwCl (zW E KL kc on rw rd_5 ft tr la mo) H → va_D A (zW E KL kc on rw rd_5 ft tr la mo) → va_S A s.heap H locs → lv_has ls 3 [(0, .ref (E.1 5)), (1, .ref (E.2.2.2.2.2.1 x1)), (2, .int x2_4)] → W p l e ({ frames := 4, cells := 0, slots := 0, locals := 85 } : Room) s m args below meth c H locs 0 0 Q (F0 m 28 ls []) := by
        intro rd_5 n
        induction n with
        | zero =>
          intro x2_4 o hF
          exact znone hF
        | succ n ih =>
          intro x2_4 o hF kx_1_0 kx_1_1 H locs ls hP hD hS hl
          rw [fX6_isWord_l1] at hF
          refine lv_iload_n hx hb dX6_isWord_28 rfl (lv_at hl 2 rfl) ?_
          refine lv_aload_n hx hb dX6_isWord_29 rfl (lv_at hl 1 rfl) ?_
          obtain ⟨u_6, hu_6, hF⟩ := zbd hF
          refine zcall_i (va_runV (As := []) (rest := [.int x2_4]) ⟨hx, hb, hml, hown, hts⟩ (qJ0_length_8abf5 l D E KL kc on rw rd_5 ft tr la mo N _ x1 _ hu_6) (cwV 0 hts (zgV k1_134 k1_135 k1_136 k0_11 k1_137) rfl rfl rfl (by decide +kernel) ⟨Nat.le_of_ble_eq_true rfl, Nat.le_of_ble_eq_true rfl⟩) (zpv hE hS hA hK hP hD (vk_recv hE.1 (zlen_lt hu_6) hS)) rfl rfl hl.1 rfl (lv_room (Nat.le_of_ble_eq_true rfl)) dX6_isWord_30 ⟨Nat.zero_le _, Nat.zero_le _⟩) hD hS hA (fun H locs hP hD hS => ?_)
          refine lv_icmp_ge (tgt := 76) hx hb dX6_isWord_33 (by decide) (fun c_7 => ?_) (fun c_7 => ?_)
          · have hF := zit c_7 hF
            exact kx_1_0 (Option.some.inj hF) _ _ _ hP hD hS (lv_sub hl [] rfl)
          · have hF := zif c_7 hF
            refine lv_aload_n hx hb dX6_isWord_36 rfl (lv_at hl 0 rfl) ?_
            refine va_get (D := D) (ci := 5) (v := .int (rd_5.1 5)) (C := RX6) (T := TX6) (N := 8) hx hb hts (zi iX6) hown hK hP 5 (zg_rd _ _ _ _ _ _ _ _ _ _) rfl 5 (by decide) (zh hts k0_63) (fun _ h9 => h9) rfl dX6_isWord_37 ?_
            refine lv_iload_n hx hb dX6_isWord_40 rfl (lv_at hl 2 rfl) ?_
            refine lv_iadd hx hb dX6_isWord_41 ?_
            refine lv_aload_n hx hb dX6_isWord_42 rfl (lv_at hl 0 rfl) ?_
            refine va_get (D := D) (ci := 5) (v := .int (rd_5.1 0)) (C := RX6) (T := TX6) (N := 8) hx hb hts (zi iX6) hown hK hP 5 (zg_rd _ _ _ _ _ _ _ _ _ _) rfl 0 (by decide) (zh hts k0_55) (fun _ h9 => h9) rfl dX6_isWord_43 ?_
            refine lv_icmp_ge (tgt := 76) hx hb dX6_isWord_46 (by decide) (fun c_8 => ?_) (fun c_8 => ?_)
            · have hF := zit c_8 hF
              exact kx_1_0 (Option.some.inj hF) _ _ _ hP hD hS (lv_sub hl [] rfl)
            · have hF := zif c_8 hF
              refine lv_aload_n hx hb dX6_isWord_49 rfl (lv_at hl 0 rfl) ?_
              refine va_get (D := D) (ci := 5) (v := .ref (E.1 6)) (C := RX6) (T := TX6) (N := 8) hx hb hts (zi iX6) hown hK hP 5 (zg_rd _ _ _ _ _ _ _ _ _ _) rfl 3 (by decide) (zh hts k0_61) (fun _ h9 => h9) rfl dX6_isWord_50 ?_
              refine lv_aload_n hx hb dX6_isWord_53 rfl (lv_at hl 0 rfl) ?_
              refine va_get (D := D) (ci := 5) (v := .int (rd_5.1 5)) (C := RX6) (T := TX6) (N := 8) hx hb hts (zi iX6) hown hK hP 5 (zg_rd _ _ _ _ _ _ _ _ _ _) rfl 5 (by decide) (zh hts k0_63) (fun _ h9 => h9) rfl dX6_isWord_54 ?_
              refine lv_iload_n hx hb dX6_isWord_57 rfl (lv_at hl 2 rfl) ?_
              refine lv_iadd hx hb dX6_isWord_58 ?_
              obtain ⟨g_9, hF⟩ := zgd hF
              refine zbald (v := rd_5.2 3 (((rd_5.1 5) + x2_4).toNatClampNeg)) hx hb hK hP 6 0 (zg_rd_3 _ _ _ _ _ _ _ _ _ _) rfl g_9 rfl dX6_isWord_59 ?_
              refine lv_aload_n hx hb dX6_isWord_60 rfl (lv_at hl 1 rfl) ?_
              refine lv_iload_n hx hb dX6_isWord_61 rfl (lv_at hl 2 rfl) ?_
              obtain ⟨u_10, hu_10, hF⟩ := zbd hF
              refine zcall_i (va_runV (As := [.int x2_4]) (rest := [.int (rd_5.2 3 (((rd_5.1 5) + x2_4).toNatClampNeg))]) ⟨hx, hb, hml, hown, hts⟩ (qJ0_charAt_5068e l D E KL kc on rw rd_5 ft tr la mo N _ x1 x2_4 _ hu_10) (cwV 1 hts (zgV k1_144 k1_145 k1_146 k0_11 k1_147) rfl rfl rfl (by decide +kernel) ⟨Nat.le_of_ble_eq_true rfl, Nat.le_of_ble_eq_true rfl⟩) (zpv hE hS hA hK hP hD (vk_recv hE.1 (zchr_lt hu_10) hS)) rfl rfl hl.1 rfl (lv_room (Nat.le_of_ble_eq_true rfl)) dX6_isWord_62 ⟨Nat.zero_le _, Nat.zero_le _⟩) hD hS hA (fun H locs hP hD hS => ?_)
              refine lv_icmp_eq (tgt := 70) hx hb dX6_isWord_65 (by decide) (fun c_11 => ?_) (fun c_11 => ?_)
              · have hF := zit c_11 hF
                refine lv_iinc (v := x2_4 + (1 : Int32)) (lv' := [(2, .int (x2_4 + (1 : Int32))), (0, .ref (E.1 5)), (1, .ref (E.2.2.2.2.2.1 x1))]) hx hb dX6_isWord_70 hl (k := 2) rfl rfl (by decide) rfl (fun ls hl => ?_)
                refine lv_goto (tgt := 28) hx hb dX6_isWord_73 (by decide) ?_
                exact ih (x2_4 + (1 : Int32)) _ hF kx_1_0 kx_1_1 _ _ _ hP hD hS (lv_sub hl [1, 2, 0] rfl)
              · have hF := zif c_11 hF
                exact kx_1_1 (Option.some.inj hF) _ _ _ hP hD hS (lv_sub hl [] rfl)
      exact lp_1 rd N (0 : Int32) _ ho_12 kx_1_0 kx_1_1 _ _ _ hP hD hS (lv_sub hl [1, 2, 0] rfl)
    · have hF := zif c_3 hF
      refine lv_iconst (v := 0) hx hb dX6_isWord_24 (by decide) ?_
      obtain rfl := Option.some.inj hF
      exact hend _ _ _ _ znar0 hP hD hS dX6_isWord_25
def fX6_readFigures_l1 (N : Nat) : Nat → Int32 → zOS → Option zOS
  | 0, _, _ => none
  | n + 1, x1_2, rd_3 =>
    if (rd_3.1 6) ≤ x1_2 then
      some rd_3
    else
      if x1_2 < 0 ∨ 500 ≤ x1_2.toNatClampNeg then none else
      fX6_readFigures_l1 N n (x1_2 + (1 : Int32)) (zpi rd_3 7 (((10 : Int32) * (rd_3.1 7)) + ((rd_3.2 3 x1_2.toNatClampNeg) - (48 : Int32))))
def fX6_readFigures (N : Nat) (rd : zOS) : Option zOS :=
  if ((rd.1 6) - (rd.1 5)) ≤ (4 : Int32) then
    (fX6_readFigures_l1 N N (rd.1 5) (zpi rd 7 (0 : Int32))).bind (fun u_8 =>
      some u_8)
  else
    some (zpi rd 4 (4 : Int32))
set_option maxHeartbeats 4000000 in
set_option maxRecDepth 100000 in
theorem qX6_readFigures (l : Launch) (D : va_G) (E : zE) (KL : List Nat) (kc : Nat → zKC) (on : zNS) (rw rd ft tr : zOS) (la : Nat → zLS) (mo : zMS) (N sz : Nat)  (out : zOS) (hF : fX6_readFigures N rd = some out) : zCv l yX6_readFigures zwX6_readFigures ({ frames := 0, cells := 0, slots := 0, locals := 0 }) [.ref (E.1 5)] D E sz (zW E KL kc on rw rd ft tr la mo) (zW E KL kc on rw out ft tr la mo) 0 0 := by
  refine zent_v (cc := cX6_readFigures) (nL := 2) (by decide) rfl (Nat.le_of_ble_eq_true rfl) ?_
  intro p e s m args below meth c Q A hx hb hml hown hts hA hK hP hD hS hE ls hl hend
  have hown : s.vm.findClass RX6 = some m.cls := hown
  have hl : lv_has ls 2 [(0, .ref (E.1 5))] := hl
  rw [fX6_readFigures] at hF
  refine lv_aload_n hx hb dX6_readFigures_0 rfl (lv_at hl 0 rfl) ?_
  refine va_get (D := D) (ci := 5) (v := .int (rd.1 6)) (C := RX6) (T := TX6) (N := 8) hx hb hts (zi iX6) hown hK hP 5 (zg_rd _ _ _ _ _ _ _ _ _ _) rfl 6 (by decide) (zh hts k0_64) (fun _ h9 => h9) rfl dX6_readFigures_1 ?_
  refine lv_aload_n hx hb dX6_readFigures_4 rfl (lv_at hl 0 rfl) ?_
  refine va_get (D := D) (ci := 5) (v := .int (rd.1 5)) (C := RX6) (T := TX6) (N := 8) hx hb hts (zi iX6) hown hK hP 5 (zg_rd _ _ _ _ _ _ _ _ _ _) rfl 5 (by decide) (zh hts k0_63) (fun _ h9 => h9) rfl dX6_readFigures_5 ?_
  refine lv_isub hx hb dX6_readFigures_8 ?_
  refine lv_iconst (v := 4) hx hb dX6_readFigures_9 (by decide) ?_
  refine lv_icmp_le (tgt := 19) hx hb dX6_readFigures_10 (by decide) (fun c_1 => ?_) (fun c_1 => ?_)
  · have hF := zit c_1 hF
    refine lv_aload_n hx hb dX6_readFigures_19 rfl (lv_at hl 0 rfl) ?_
    refine lv_iconst (v := 0) hx hb dX6_readFigures_20 (by decide) ?_
    refine va_put (D := D) (ci := 5) (v := .int (0 : Int32)) (ty := .int) (C := RX6) (T := TX6) (N := 8) hx hb hts (zi iX6) tyX6 tyX6_ok nmX6 hown hK hP hD hS 5 (zg_rd _ _ _ _ _ _ _ _ _ _) rfl 7 (by decide) (zh hts k0_65) (fun _ h9 => h9) rfl (by decide +kernel) rfl rfl (Nat.le_of_ble_eq_true rfl) dX6_readFigures_21 (fun H locs hP hD hS => ?_)
    rw [zs_rd_7] at hP hD
    refine lv_aload_n hx hb dX6_readFigures_24 rfl (lv_at hl 0 rfl) ?_
    refine va_get (D := D) (ci := 5) (v := .int (rd.1 5)) (C := RX6) (T := TX6) (N := 8) hx hb hts (zi iX6) hown hK hP 5 (zg_rd _ _ _ _ _ _ _ _ _ _) rfl 5 (by decide) (zh hts k0_63) (fun _ h9 => h9) rfl dX6_readFigures_25 ?_
    refine lv_istore_n (lv' := [(1, .int (rd.1 5)), (0, .ref (E.1 5))]) hx hb dX6_readFigures_28 rfl hl (by decide) rfl (fun ls hl => ?_)
    obtain ⟨o_6, ho_6, hF⟩ := zbd hF
    have kx_1_0 : ∀ (rd_7 : zOS), rd_7 = o_6 → ∀ (H : Heap) (locs : List Loc) (ls : Array Slot), va_P D vwCl (zW E KL kc on rw rd_7 ft tr la mo) H → va_D A (zW E KL kc on rw rd_7 ft tr la mo) → va_S A s.heap H locs → lv_has ls 2 [] → W p l e ({ frames := 0, cells := 0, slots := 0, locals := 0 } : Room) s m args below meth c H locs 0 0 Q (F0 m 64 ls []) := by
      intro rd_7 ho H locs ls hP hD hS hl
      subst ho
      obtain rfl := Option.some.inj hF
      exact hend _ _ _ _ hP hD hS dX6_readFigures_64
    have lp_1 : ∀ (n : Nat) (x1_2 : Int32) (rd_3 : zOS) (o : zOS), fX6_readFigures_l1 N n x1_2 rd_3 = some o → (∀ (rd_7 : zOS), rd_7 = o → ∀ (H : Heap) (locs : List Loc) (ls : Array Slot), va_P D vwCl (zW E KL kc on rw rd_7 ft tr la mo) H → va_D A (zW E KL kc on rw rd_7 ft tr la mo) → va_S A s.heap H locs → lv_has ls 2 [] → W p l e ({ frames := 0, cells := 0, slots := 0, locals := 0 } : Room) s m args below meth c H locs 0 0 Q (F0 m 64 ls [])) → ∀ (H : Heap) (locs : List Loc) (ls : Array Slot), va_P D vwCl (zW E KL kc on rw rd_3 ft tr la mo) H → va_D A (zW E KL kc on rw rd_3 ft tr la mo) → va_S A s.heap H locs → lv_has ls 2 [(0, .ref (E.1 5)), (1, .int x1_2)] → W p l e ({ frames := 0, cells := 0, slots := 0, locals := 0 } : Room) s m args below meth c H locs 0 0 Q (F0 m 29 ls []) := by
      intro n
      induction n with
      | zero =>
        intro x1_2 rd_3 o hF
        exact znone hF
      | succ n ih =>
        intro x1_2 rd_3 o hF kx_1_0 H locs ls hP hD hS hl
        rw [fX6_readFigures_l1] at hF
        refine lv_iload_n hx hb dX6_readFigures_29 rfl (lv_at hl 1 rfl) ?_
        refine lv_aload_n hx hb dX6_readFigures_30 rfl (lv_at hl 0 rfl) ?_
        refine va_get (D := D) (ci := 5) (v := .int (rd_3.1 6)) (C := RX6) (T := TX6) (N := 8) hx hb hts (zi iX6) hown hK hP 5 (zg_rd _ _ _ _ _ _ _ _ _ _) rfl 6 (by decide) (zh hts k0_64) (fun _ h9 => h9) rfl dX6_readFigures_31 ?_
        refine lv_icmp_ge (tgt := 64) hx hb dX6_readFigures_34 (by decide) (fun c_4 => ?_) (fun c_4 => ?_)
        · have hF := zit c_4 hF
          exact kx_1_0 rd_3 (Option.some.inj hF) _ _ _ hP hD hS (lv_sub hl [] rfl)
        · have hF := zif c_4 hF
          refine lv_aload_n hx hb dX6_readFigures_37 rfl (lv_at hl 0 rfl) ?_
          refine lv_bipush (v := 10) hx hb dX6_readFigures_38 (by decide) ?_
          refine lv_aload_n hx hb dX6_readFigures_40 rfl (lv_at hl 0 rfl) ?_
          refine va_get (D := D) (ci := 5) (v := .int (rd_3.1 7)) (C := RX6) (T := TX6) (N := 8) hx hb hts (zi iX6) hown hK hP 5 (zg_rd _ _ _ _ _ _ _ _ _ _) rfl 7 (by decide) (zh hts k0_65) (fun _ h9 => h9) rfl dX6_readFigures_41 ?_
          refine lv_imul hx hb dX6_readFigures_44 ?_
          refine lv_aload_n hx hb dX6_readFigures_45 rfl (lv_at hl 0 rfl) ?_
          refine va_get (D := D) (ci := 5) (v := .ref (E.1 6)) (C := RX6) (T := TX6) (N := 8) hx hb hts (zi iX6) hown hK hP 5 (zg_rd _ _ _ _ _ _ _ _ _ _) rfl 3 (by decide) (zh hts k0_61) (fun _ h9 => h9) rfl dX6_readFigures_46 ?_
          refine lv_iload_n hx hb dX6_readFigures_49 rfl (lv_at hl 1 rfl) ?_
          obtain ⟨g_5, hF⟩ := zgd hF
          refine zbald (v := rd_3.2 3 x1_2.toNatClampNeg) hx hb hK hP 6 0 (zg_rd_3 _ _ _ _ _ _ _ _ _ _) rfl g_5 rfl dX6_readFigures_50 ?_
          refine lv_bipush (v := 48) hx hb dX6_readFigures_51 (by decide) ?_
          refine lv_isub hx hb dX6_readFigures_53 ?_
          refine lv_iadd hx hb dX6_readFigures_54 ?_
          refine va_put (D := D) (ci := 5) (v := .int (((10 : Int32) * (rd_3.1 7)) + ((rd_3.2 3 x1_2.toNatClampNeg) - (48 : Int32)))) (ty := .int) (C := RX6) (T := TX6) (N := 8) hx hb hts (zi iX6) tyX6 tyX6_ok nmX6 hown hK hP hD hS 5 (zg_rd _ _ _ _ _ _ _ _ _ _) rfl 7 (by decide) (zh hts k0_65) (fun _ h9 => h9) rfl (by decide +kernel) rfl rfl (Nat.le_of_ble_eq_true rfl) dX6_readFigures_55 (fun H locs hP hD hS => ?_)
          rw [zs_rd_7] at hP hD
          refine lv_iinc (v := x1_2 + (1 : Int32)) (lv' := [(1, .int (x1_2 + (1 : Int32))), (0, .ref (E.1 5))]) hx hb dX6_readFigures_58 hl (k := 1) rfl rfl (by decide) rfl (fun ls hl => ?_)
          refine lv_goto (tgt := 29) hx hb dX6_readFigures_61 (by decide) ?_
          exact ih (x1_2 + (1 : Int32)) (zpi rd_3 7 (((10 : Int32) * (rd_3.1 7)) + ((rd_3.2 3 x1_2.toNatClampNeg) - (48 : Int32)))) _ hF kx_1_0 _ _ _ hP hD hS (lv_sub hl [1, 0] rfl)
    exact lp_1 N (rd.1 5) (zpi rd 7 (0 : Int32)) _ ho_6 kx_1_0 _ _ _ hP hD hS (lv_sub hl [1, 0] rfl)
  · have hF := zif c_1 hF
    refine lv_aload_n hx hb dX6_readFigures_13 rfl (lv_at hl 0 rfl) ?_
    refine lv_iconst (v := 4) hx hb dX6_readFigures_14 (by decide) ?_
    refine va_put (D := D) (ci := 5) (v := .int (4 : Int32)) (ty := .int) (C := RX6) (T := TX6) (N := 8) hx hb hts (zi iX6) tyX6 tyX6_ok nmX6 hown hK hP hD hS 5 (zg_rd _ _ _ _ _ _ _ _ _ _) rfl 4 (by decide) (zh hts k0_62) (fun _ h9 => h9) rfl (by decide +kernel) rfl rfl (Nat.le_of_ble_eq_true rfl) dX6_readFigures_15 (fun H locs hP hD hS => ?_)
    rw [zs_rd_4] at hP hD
    obtain rfl := Option.some.inj hF
    exact hend _ _ _ _ hP hD hS dX6_readFigures_18
def fX6_sortOf (N : Nat) (x0 : Int32) : Option Int32 :=
  if x0 = (32 : Int32) then
    some (0 : Int32)
  else
    if x0 = (10 : Int32) then
      some (0 : Int32)
    else
      if x0 < (97 : Int32) then
        if x0 < (48 : Int32) then
          if x0 = (59 : Int32) then
            some (3 : Int32)
          else
            some (4 : Int32)
        else
          if (57 : Int32) < x0 then
            if x0 = (59 : Int32) then
              some (3 : Int32)
            else
              some (4 : Int32)
          else
            some (2 : Int32)
      else
        if (122 : Int32) < x0 then
          if x0 < (48 : Int32) then
            if x0 = (59 : Int32) then
              some (3 : Int32)
            else
              some (4 : Int32)
          else
            if (57 : Int32) < x0 then
              if x0 = (59 : Int32) then
                some (3 : Int32)
              else
                some (4 : Int32)
            else
              some (2 : Int32)
        else
          some (1 : Int32)
set_option maxHeartbeats 4000000 in
set_option maxRecDepth 100000 in
theorem qX6_sortOf (l : Launch) (D : va_G) (E : zE) (KL : List Nat) (kc : Nat → zKC) (on : zNS) (rw rd ft tr : zOS) (la : Nat → zLS) (mo : zMS) (N sz : Nat) (x0 : Int32) (out : Int32) (hF : fX6_sortOf N x0 = some out) : zCi l yX6_sortOf zwX6_sortOf ({ frames := 0, cells := 0, slots := 0, locals := 0 }) [.int x0] D E sz (zW E KL kc on rw rd ft tr la mo) (zW E KL kc on rw rd ft tr la mo) out 0 0 := by
  refine zent_i (cc := cX6_sortOf) (nL := 1) (by decide) rfl (Nat.le_of_ble_eq_true rfl) ?_
  intro p e s m args below meth c Q A hx hb hml hown hts hA hK hP hD hS hE ls hl hend
  have hown : s.vm.findClass RX6 = some m.cls := hown
  have hl : lv_has ls 1 [(0, .int x0)] := hl
  rw [fX6_sortOf] at hF
  refine lv_iload_n hx hb dX6_sortOf_0 rfl (lv_at hl 0 rfl) ?_
  refine lv_bipush (v := 32) hx hb dX6_sortOf_1 (by decide) ?_
  refine lv_icmp_eq (tgt := 12) hx hb dX6_sortOf_3 (by decide) (fun c_1 => ?_) (fun c_1 => ?_)
  · have hF := zit c_1 hF
    refine lv_iconst (v := 0) hx hb dX6_sortOf_12 (by decide) ?_
    obtain rfl := Option.some.inj hF
    exact hend _ _ _ _ hP hD hS dX6_sortOf_13
  · have hF := zif c_1 hF
    refine lv_iload_n hx hb dX6_sortOf_6 rfl (lv_at hl 0 rfl) ?_
    refine lv_bipush (v := 10) hx hb dX6_sortOf_7 (by decide) ?_
    refine lv_icmp_ne (tgt := 14) hx hb dX6_sortOf_9 (by decide) (fun c_2 => ?_) (fun c_2 => ?_)
    · have hF := zif c_2 hF
      refine lv_iload_n hx hb dX6_sortOf_14 rfl (lv_at hl 0 rfl) ?_
      refine lv_bipush (v := 97) hx hb dX6_sortOf_15 (by decide) ?_
      refine lv_icmp_lt (tgt := 28) hx hb dX6_sortOf_17 (by decide) (fun c_3 => ?_) (fun c_3 => ?_)
      · have hF := zit c_3 hF
        refine lv_iload_n hx hb dX6_sortOf_28 rfl (lv_at hl 0 rfl) ?_
        refine lv_bipush (v := 48) hx hb dX6_sortOf_29 (by decide) ?_
        refine lv_icmp_lt (tgt := 42) hx hb dX6_sortOf_31 (by decide) (fun c_4 => ?_) (fun c_4 => ?_)
        · have hF := zit c_4 hF
          refine lv_iload_n hx hb dX6_sortOf_42 rfl (lv_at hl 0 rfl) ?_
          refine lv_bipush (v := 59) hx hb dX6_sortOf_43 (by decide) ?_
          refine lv_icmp_ne (tgt := 52) hx hb dX6_sortOf_45 (by decide) (fun c_5 => ?_) (fun c_5 => ?_)
          · have hF := zif c_5 hF
            refine lv_iconst (v := 4) hx hb dX6_sortOf_52 (by decide) ?_
            obtain rfl := Option.some.inj hF
            exact hend _ _ _ _ hP hD hS dX6_sortOf_53
          · have hF := zit c_5 hF
            refine lv_iconst (v := 3) hx hb dX6_sortOf_48 (by decide) ?_
            refine lv_goto (tgt := 53) hx hb dX6_sortOf_49 (by decide) ?_
            obtain rfl := Option.some.inj hF
            exact hend _ _ _ _ hP hD hS dX6_sortOf_53
        · have hF := zif c_4 hF
          refine lv_iload_n hx hb dX6_sortOf_34 rfl (lv_at hl 0 rfl) ?_
          refine lv_bipush (v := 57) hx hb dX6_sortOf_35 (by decide) ?_
          refine lv_icmp_gt (tgt := 42) hx hb dX6_sortOf_37 (by decide) (fun c_6 => ?_) (fun c_6 => ?_)
          · have hF := zit c_6 hF
            refine lv_iload_n hx hb dX6_sortOf_42 rfl (lv_at hl 0 rfl) ?_
            refine lv_bipush (v := 59) hx hb dX6_sortOf_43 (by decide) ?_
            refine lv_icmp_ne (tgt := 52) hx hb dX6_sortOf_45 (by decide) (fun c_7 => ?_) (fun c_7 => ?_)
            · have hF := zif c_7 hF
              refine lv_iconst (v := 4) hx hb dX6_sortOf_52 (by decide) ?_
              obtain rfl := Option.some.inj hF
              exact hend _ _ _ _ hP hD hS dX6_sortOf_53
            · have hF := zit c_7 hF
              refine lv_iconst (v := 3) hx hb dX6_sortOf_48 (by decide) ?_
              refine lv_goto (tgt := 53) hx hb dX6_sortOf_49 (by decide) ?_
              obtain rfl := Option.some.inj hF
              exact hend _ _ _ _ hP hD hS dX6_sortOf_53
          · have hF := zif c_6 hF
            refine lv_iconst (v := 2) hx hb dX6_sortOf_40 (by decide) ?_
            obtain rfl := Option.some.inj hF
            exact hend _ _ _ _ hP hD hS dX6_sortOf_41
      · have hF := zif c_3 hF
        refine lv_iload_n hx hb dX6_sortOf_20 rfl (lv_at hl 0 rfl) ?_
        refine lv_bipush (v := 122) hx hb dX6_sortOf_21 (by decide) ?_
        refine lv_icmp_gt (tgt := 28) hx hb dX6_sortOf_23 (by decide) (fun c_8 => ?_) (fun c_8 => ?_)
        · have hF := zit c_8 hF
          refine lv_iload_n hx hb dX6_sortOf_28 rfl (lv_at hl 0 rfl) ?_
          refine lv_bipush (v := 48) hx hb dX6_sortOf_29 (by decide) ?_
          refine lv_icmp_lt (tgt := 42) hx hb dX6_sortOf_31 (by decide) (fun c_9 => ?_) (fun c_9 => ?_)
          · have hF := zit c_9 hF
            refine lv_iload_n hx hb dX6_sortOf_42 rfl (lv_at hl 0 rfl) ?_
            refine lv_bipush (v := 59) hx hb dX6_sortOf_43 (by decide) ?_
            refine lv_icmp_ne (tgt := 52) hx hb dX6_sortOf_45 (by decide) (fun c_10 => ?_) (fun c_10 => ?_)
            · have hF := zif c_10 hF
              refine lv_iconst (v := 4) hx hb dX6_sortOf_52 (by decide) ?_
              obtain rfl := Option.some.inj hF
              exact hend _ _ _ _ hP hD hS dX6_sortOf_53
            · have hF := zit c_10 hF
              refine lv_iconst (v := 3) hx hb dX6_sortOf_48 (by decide) ?_
              refine lv_goto (tgt := 53) hx hb dX6_sortOf_49 (by decide) ?_
              obtain rfl := Option.some.inj hF
              exact hend _ _ _ _ hP hD hS dX6_sortOf_53
          · have hF := zif c_9 hF
            refine lv_iload_n hx hb dX6_sortOf_34 rfl (lv_at hl 0 rfl) ?_
            refine lv_bipush (v := 57) hx hb dX6_sortOf_35 (by decide) ?_
            refine lv_icmp_gt (tgt := 42) hx hb dX6_sortOf_37 (by decide) (fun c_11 => ?_) (fun c_11 => ?_)
            · have hF := zit c_11 hF
              refine lv_iload_n hx hb dX6_sortOf_42 rfl (lv_at hl 0 rfl) ?_
              refine lv_bipush (v := 59) hx hb dX6_sortOf_43 (by decide) ?_
              refine lv_icmp_ne (tgt := 52) hx hb dX6_sortOf_45 (by decide) (fun c_12 => ?_) (fun c_12 => ?_)
              · have hF := zif c_12 hF
                refine lv_iconst (v := 4) hx hb dX6_sortOf_52 (by decide) ?_
                obtain rfl := Option.some.inj hF
                exact hend _ _ _ _ hP hD hS dX6_sortOf_53
              · have hF := zit c_12 hF
                refine lv_iconst (v := 3) hx hb dX6_sortOf_48 (by decide) ?_
                refine lv_goto (tgt := 53) hx hb dX6_sortOf_49 (by decide) ?_
                obtain rfl := Option.some.inj hF
                exact hend _ _ _ _ hP hD hS dX6_sortOf_53
            · have hF := zif c_11 hF
              refine lv_iconst (v := 2) hx hb dX6_sortOf_40 (by decide) ?_
              obtain rfl := Option.some.inj hF
              exact hend _ _ _ _ hP hD hS dX6_sortOf_41
        · have hF := zif c_8 hF
          refine lv_iconst (v := 1) hx hb dX6_sortOf_26 (by decide) ?_
          obtain rfl := Option.some.inj hF
          exact hend _ _ _ _ hP hD hS dX6_sortOf_27
    · have hF := zit c_2 hF
      refine lv_iconst (v := 0) hx hb dX6_sortOf_12 (by decide) ?_
      obtain rfl := Option.some.inj hF
      exact hend _ _ _ _ hP hD hS dX6_sortOf_13
def fX6_kindNamed (N : Nat) (rd : zOS) : Option Int32 :=
  (fX6_isWord N rd 7).bind fun u_1 =>
  if u_1 = 0 then
    (fX6_isWord N rd 8).bind fun u_3 =>
    if u_3 = 0 then
      (fX6_isWord N rd 9).bind fun u_5 =>
      if u_5 = 0 then
        (fX6_isWord N rd 10).bind fun u_7 =>
        if u_7 = 0 then
          (fX6_isWord N rd 11).bind fun u_9 =>
          if u_9 = 0 then
            some (0 : Int32)
          else
            some (5 : Int32)
        else
          some (4 : Int32)
      else
        some (3 : Int32)
    else
      some (2 : Int32)
  else
    some (1 : Int32)
set_option maxHeartbeats 4000000 in
set_option maxRecDepth 100000 in
theorem qX6_kindNamed (l : Launch) (D : va_G) (E : zE) (KL : List Nat) (kc : Nat → zKC) (on : zNS) (rw rd ft tr : zOS) (la : Nat → zLS) (mo : zMS) (N sz : Nat)  (out : Int32) (hF : fX6_kindNamed N rd = some out) : zCi l yX6_kindNamed zwX6_kindNamed ({ frames := 5, cells := 0, slots := 0, locals := 107 }) [.ref (E.1 5)] D E sz (zW E KL kc on rw rd ft tr la mo) (zW E KL kc on rw rd ft tr la mo) out 0 0 := by
  refine zent_i (cc := cX6_kindNamed) (nL := 1) (by decide) rfl (Nat.le_of_ble_eq_true rfl) ?_
  intro p e s m args below meth c Q A hx hb hml hown hts hA hK hP hD hS hE ls hl hend
  have hown : s.vm.findClass RX6 = some m.cls := hown
  have hl : lv_has ls 1 [(0, .ref (E.1 5))] := hl
  rw [fX6_kindNamed] at hF
  refine lv_aload_n hx hb dX6_kindNamed_0 rfl (lv_at hl 0 rfl) ?_
  refine va_ldcS (own := RX6) (tx := zst.getD 7 "") (q := E.2.2.2.2.2.1 7) hx hb hown (hE.2.2.2.1 7 (by decide)) dX6_kindNamed_1 ?_
  obtain ⟨u_1, hu_1, hF⟩ := zbd hF
  refine zcall_i (va_runV (As := [.ref (E.2.2.2.2.2.1 7)]) (rest := []) ⟨hx, hb, hml, hown, hts⟩ (qX6_isWord l D E KL kc on rw rd ft tr la mo N _ 7 _ hu_1) (cwV 1 hts (zgV k1_130 k1_132 kp0_7 k0_4 k1_133) rfl rfl rfl (by decide +kernel) ⟨Nat.le_of_ble_eq_true rfl, Nat.le_of_ble_eq_true rfl⟩) (zpv hE hS hA hK hP hD (va_recv hK hP (ci := 5) (q0 := 5) rfl (zg_rd _ _ _ _ _ _ _ _ _ _))) rfl rfl hl.1 rfl (lv_room (Nat.le_of_ble_eq_true rfl)) dX6_kindNamed_3 ⟨Nat.zero_le _, Nat.zero_le _⟩) hD hS hA (fun H locs hP hD hS => ?_)
  refine lv_if_eq (tgt := 11) hx hb dX6_kindNamed_6 (by decide) (fun c_2 => ?_) (fun c_2 => ?_)
  · have hF := zit c_2 hF
    refine lv_aload_n hx hb dX6_kindNamed_11 rfl (lv_at hl 0 rfl) ?_
    refine va_ldcS (own := RX6) (tx := zst.getD 8 "") (q := E.2.2.2.2.2.1 8) hx hb hown (hE.2.2.2.1 8 (by decide)) dX6_kindNamed_12 ?_
    obtain ⟨u_3, hu_3, hF⟩ := zbd hF
    refine zcall_i (va_runV (As := [.ref (E.2.2.2.2.2.1 8)]) (rest := []) ⟨hx, hb, hml, hown, hts⟩ (qX6_isWord l D E KL kc on rw rd ft tr la mo N _ 8 _ hu_3) (cwV 1 hts (zgV k1_130 k1_132 kp0_7 k0_4 k1_133) rfl rfl rfl (by decide +kernel) ⟨Nat.le_of_ble_eq_true rfl, Nat.le_of_ble_eq_true rfl⟩) (zpv hE hS hA hK hP hD (va_recv hK hP (ci := 5) (q0 := 5) rfl (zg_rd _ _ _ _ _ _ _ _ _ _))) rfl rfl hl.1 rfl (lv_room (Nat.le_of_ble_eq_true rfl)) dX6_kindNamed_14 ⟨Nat.zero_le _, Nat.zero_le _⟩) hD hS hA (fun H locs hP hD hS => ?_)
    refine lv_if_eq (tgt := 22) hx hb dX6_kindNamed_17 (by decide) (fun c_4 => ?_) (fun c_4 => ?_)
    · have hF := zit c_4 hF
      refine lv_aload_n hx hb dX6_kindNamed_22 rfl (lv_at hl 0 rfl) ?_
      refine va_ldcS (own := RX6) (tx := zst.getD 9 "") (q := E.2.2.2.2.2.1 9) hx hb hown (hE.2.2.2.1 9 (by decide)) dX6_kindNamed_23 ?_
      obtain ⟨u_5, hu_5, hF⟩ := zbd hF
      refine zcall_i (va_runV (As := [.ref (E.2.2.2.2.2.1 9)]) (rest := []) ⟨hx, hb, hml, hown, hts⟩ (qX6_isWord l D E KL kc on rw rd ft tr la mo N _ 9 _ hu_5) (cwV 1 hts (zgV k1_130 k1_132 kp0_7 k0_4 k1_133) rfl rfl rfl (by decide +kernel) ⟨Nat.le_of_ble_eq_true rfl, Nat.le_of_ble_eq_true rfl⟩) (zpv hE hS hA hK hP hD (va_recv hK hP (ci := 5) (q0 := 5) rfl (zg_rd _ _ _ _ _ _ _ _ _ _))) rfl rfl hl.1 rfl (lv_room (Nat.le_of_ble_eq_true rfl)) dX6_kindNamed_25 ⟨Nat.zero_le _, Nat.zero_le _⟩) hD hS hA (fun H locs hP hD hS => ?_)
      refine lv_if_eq (tgt := 33) hx hb dX6_kindNamed_28 (by decide) (fun c_6 => ?_) (fun c_6 => ?_)
      · have hF := zit c_6 hF
        refine lv_aload_n hx hb dX6_kindNamed_33 rfl (lv_at hl 0 rfl) ?_
        refine va_ldcS (own := RX6) (tx := zst.getD 10 "") (q := E.2.2.2.2.2.1 10) hx hb hown (hE.2.2.2.1 10 (by decide)) dX6_kindNamed_34 ?_
        obtain ⟨u_7, hu_7, hF⟩ := zbd hF
        refine zcall_i (va_runV (As := [.ref (E.2.2.2.2.2.1 10)]) (rest := []) ⟨hx, hb, hml, hown, hts⟩ (qX6_isWord l D E KL kc on rw rd ft tr la mo N _ 10 _ hu_7) (cwV 1 hts (zgV k1_130 k1_132 kp0_7 k0_4 k1_133) rfl rfl rfl (by decide +kernel) ⟨Nat.le_of_ble_eq_true rfl, Nat.le_of_ble_eq_true rfl⟩) (zpv hE hS hA hK hP hD (va_recv hK hP (ci := 5) (q0 := 5) rfl (zg_rd _ _ _ _ _ _ _ _ _ _))) rfl rfl hl.1 rfl (lv_room (Nat.le_of_ble_eq_true rfl)) dX6_kindNamed_36 ⟨Nat.zero_le _, Nat.zero_le _⟩) hD hS hA (fun H locs hP hD hS => ?_)
        refine lv_if_eq (tgt := 44) hx hb dX6_kindNamed_39 (by decide) (fun c_8 => ?_) (fun c_8 => ?_)
        · have hF := zit c_8 hF
          refine lv_aload_n hx hb dX6_kindNamed_44 rfl (lv_at hl 0 rfl) ?_
          refine va_ldcS (own := RX6) (tx := zst.getD 11 "") (q := E.2.2.2.2.2.1 11) hx hb hown (hE.2.2.2.1 11 (by decide)) dX6_kindNamed_45 ?_
          obtain ⟨u_9, hu_9, hF⟩ := zbd hF
          refine zcall_i (va_runV (As := [.ref (E.2.2.2.2.2.1 11)]) (rest := []) ⟨hx, hb, hml, hown, hts⟩ (qX6_isWord l D E KL kc on rw rd ft tr la mo N _ 11 _ hu_9) (cwV 1 hts (zgV k1_130 k1_132 kp0_7 k0_4 k1_133) rfl rfl rfl (by decide +kernel) ⟨Nat.le_of_ble_eq_true rfl, Nat.le_of_ble_eq_true rfl⟩) (zpv hE hS hA hK hP hD (va_recv hK hP (ci := 5) (q0 := 5) rfl (zg_rd _ _ _ _ _ _ _ _ _ _))) rfl rfl hl.1 rfl (lv_room (Nat.le_of_ble_eq_true rfl)) dX6_kindNamed_47 ⟨Nat.zero_le _, Nat.zero_le _⟩) hD hS hA (fun H locs hP hD hS => ?_)
          refine lv_if_eq (tgt := 57) hx hb dX6_kindNamed_50 (by decide) (fun c_10 => ?_) (fun c_10 => ?_)
          · have hF := zit c_10 hF
            refine lv_iconst (v := 0) hx hb dX6_kindNamed_57 (by decide) ?_
            obtain rfl := Option.some.inj hF
            exact hend _ _ _ _ hP hD hS dX6_kindNamed_58
          · have hF := zif c_10 hF
            refine lv_iconst (v := 5) hx hb dX6_kindNamed_53 (by decide) ?_
            refine lv_goto (tgt := 58) hx hb dX6_kindNamed_54 (by decide) ?_
            obtain rfl := Option.some.inj hF
            exact hend _ _ _ _ hP hD hS dX6_kindNamed_58
        · have hF := zif c_8 hF
          refine lv_iconst (v := 4) hx hb dX6_kindNamed_42 (by decide) ?_
          obtain rfl := Option.some.inj hF
          exact hend _ _ _ _ hP hD hS dX6_kindNamed_43
      · have hF := zif c_6 hF
        refine lv_iconst (v := 3) hx hb dX6_kindNamed_31 (by decide) ?_
        obtain rfl := Option.some.inj hF
        exact hend _ _ _ _ hP hD hS dX6_kindNamed_32
    · have hF := zif c_4 hF
      refine lv_iconst (v := 2) hx hb dX6_kindNamed_20 (by decide) ?_
      obtain rfl := Option.some.inj hF
      exact hend _ _ _ _ hP hD hS dX6_kindNamed_21
  · have hF := zif c_2 hF
    refine lv_iconst (v := 1) hx hb dX6_kindNamed_9 (by decide) ?_
    obtain rfl := Option.some.inj hF
    exact hend _ _ _ _ hP hD hS dX6_kindNamed_10
def fX6_behindRun_l1 (N : Nat) (rd_3 : zOS) (x2_1 : Int32) : Nat → Int32 → Option Int32
  | 0, _ => none
  | n + 1, x3_2 =>
    if (rd_3.1 0) ≤ x3_2 then
      some x3_2
    else
      if x3_2 < 0 ∨ 500 ≤ x3_2.toNatClampNeg then none else
      (fX6_sortOf N (rd_3.2 3 x3_2.toNatClampNeg)).bind fun u_6 =>
      if u_6 = x2_1 then
        fX6_behindRun_l1 N rd_3 x2_1 n (x3_2 + (1 : Int32))
      else
        some x3_2
def fX6_behindRun (N : Nat) (rd : zOS) (x1 : Int32) (x2 : Int32) : Option Int32 :=
  (fX6_behindRun_l1 N rd x2 N x1).bind (fun u_10 =>
    some u_10)
set_option maxHeartbeats 4000000 in
set_option maxRecDepth 100000 in
theorem qX6_behindRun (l : Launch) (D : va_G) (E : zE) (KL : List Nat) (kc : Nat → zKC) (on : zNS) (rw rd ft tr : zOS) (la : Nat → zLS) (mo : zMS) (N sz : Nat) (x1 : Int32) (x2 : Int32) (out : Int32) (hF : fX6_behindRun N rd x1 x2 = some out) : zCi l yX6_behindRun zwX6_behindRun ({ frames := 1, cells := 0, slots := 0, locals := 20 }) [.ref (E.1 5), .int x1, .int x2] D E sz (zW E KL kc on rw rd ft tr la mo) (zW E KL kc on rw rd ft tr la mo) out 0 0 := by
  refine zent_i (cc := cX6_behindRun) (nL := 4) (by decide) rfl (Nat.le_of_ble_eq_true rfl) ?_
  intro p e s m args below meth c Q A hx hb hml hown hts hA hK hP hD hS hE ls hl hend
  have hown : s.vm.findClass RX6 = some m.cls := hown
  have hl : lv_has ls 4 [(0, .ref (E.1 5)), (1, .int x1), (2, .int x2)] := hl
  rw [fX6_behindRun] at hF
  refine lv_iload_n hx hb dX6_behindRun_0 rfl (lv_at hl 1 rfl) ?_
  refine lv_istore_n (lv' := [(3, .int x1), (0, .ref (E.1 5)), (1, .int x1), (2, .int x2)]) hx hb dX6_behindRun_1 rfl hl (by decide) rfl (fun ls hl => ?_)
  obtain ⟨o_8, ho_8, hF⟩ := zbd hF
  have kx_1_0 : ∀ (x3_9 : Int32), x3_9 = o_8 → ∀ (H : Heap) (locs : List Loc) (ls : Array Slot), va_P D vwCl (zW E KL kc on rw rd ft tr la mo) H → va_D A (zW E KL kc on rw rd ft tr la mo) → va_S A s.heap H locs → lv_has ls 4 [(3, .int x3_9)] → W p l e ({ frames := 1, cells := 0, slots := 0, locals := 20 } : Room) s m args below meth c H locs 0 0 Q (F0 m 29 ls []) := by
    intro x3_9 ho H locs ls hP hD hS hl
    subst ho
    refine lv_iload_n hx hb dX6_behindRun_29 rfl (lv_at hl 0 rfl) ?_
    obtain rfl := Option.some.inj hF
    exact hend _ _ _ _ hP hD hS dX6_behindRun_30
  have lp_1 : ∀ (rd_3 : zOS) (x2_1 : Int32) (n : Nat) (x3_2 : Int32) (o : Int32), fX6_behindRun_l1 N rd_3 x2_1 n x3_2 = some o → (∀ (x3_9 : Int32), x3_9 = o → ∀ (H : Heap) (locs : List Loc) (ls : Array Slot), va_P D vwCl (zW E KL kc on rw rd_3 ft tr la mo) H → va_D A (zW E KL kc on rw rd_3 ft tr la mo) → va_S A s.heap H locs → lv_has ls 4 [(3, .int x3_9)] → W p l e ({ frames := 1, cells := 0, slots := 0, locals := 20 } : Room) s m args below meth c H locs 0 0 Q (F0 m 29 ls [])) → ∀ (H : Heap) (locs : List Loc) (ls : Array Slot), va_P D vwCl (zW E KL kc on rw rd_3 ft tr la mo) H → va_D A (zW E KL kc on rw rd_3 ft tr la mo) → va_S A s.heap H locs → lv_has ls 4 [(0, .ref (E.1 5)), (2, .int x2_1), (3, .int x3_2)] → W p l e ({ frames := 1, cells := 0, slots := 0, locals := 20 } : Room) s m args below meth c H locs 0 0 Q (F0 m 2 ls []) := by
    intro rd_3 x2_1 n
    induction n with
    | zero =>
      intro x3_2 o hF
      exact znone hF
    | succ n ih =>
      intro x3_2 o hF kx_1_0 H locs ls hP hD hS hl
      rw [fX6_behindRun_l1] at hF
      refine lv_iload_n hx hb dX6_behindRun_2 rfl (lv_at hl 2 rfl) ?_
      refine lv_aload_n hx hb dX6_behindRun_3 rfl (lv_at hl 0 rfl) ?_
      refine va_get (D := D) (ci := 5) (v := .int (rd_3.1 0)) (C := RX6) (T := TX6) (N := 8) hx hb hts (zi iX6) hown hK hP 5 (zg_rd _ _ _ _ _ _ _ _ _ _) rfl 0 (by decide) (zh hts k0_55) (fun _ h9 => h9) rfl dX6_behindRun_4 ?_
      refine lv_icmp_ge (tgt := 29) hx hb dX6_behindRun_7 (by decide) (fun c_4 => ?_) (fun c_4 => ?_)
      · have hF := zit c_4 hF
        exact kx_1_0 x3_2 (Option.some.inj hF) _ _ _ hP hD hS (lv_sub hl [2] rfl)
      · have hF := zif c_4 hF
        refine lv_aload_n hx hb dX6_behindRun_10 rfl (lv_at hl 0 rfl) ?_
        refine va_get (D := D) (ci := 5) (v := .ref (E.1 6)) (C := RX6) (T := TX6) (N := 8) hx hb hts (zi iX6) hown hK hP 5 (zg_rd _ _ _ _ _ _ _ _ _ _) rfl 3 (by decide) (zh hts k0_61) (fun _ h9 => h9) rfl dX6_behindRun_11 ?_
        refine lv_iload_n hx hb dX6_behindRun_14 rfl (lv_at hl 2 rfl) ?_
        obtain ⟨g_5, hF⟩ := zgd hF
        refine zbald (v := rd_3.2 3 x3_2.toNatClampNeg) hx hb hK hP 6 0 (zg_rd_3 _ _ _ _ _ _ _ _ _ _) rfl g_5 rfl dX6_behindRun_15 ?_
        obtain ⟨u_6, hu_6, hF⟩ := zbd hF
        refine zcall_i (va_runS (As := [.int (rd_3.2 3 x3_2.toNatClampNeg)]) (rest := []) ⟨hx, hb, hml, hown, hts⟩ (qX6_sortOf l D E KL kc on rw rd_3 ft tr la mo N _ (rd_3.2 3 x3_2.toNatClampNeg) _ hu_6) (va_cwS 1 hts (zgS k1_111 k1_112 k0_4 k1_113) rfl rfl rfl (by decide +kernel) ⟨Nat.le_of_ble_eq_true rfl, Nat.le_of_ble_eq_true rfl⟩) (zps hE hS hA hK hP hD) rfl rfl hl.1 rfl (lv_room (Nat.le_of_ble_eq_true rfl)) dX6_behindRun_16 ⟨Nat.zero_le _, Nat.zero_le _⟩) hD hS hA (fun H locs hP hD hS => ?_)
        refine lv_iload_n hx hb dX6_behindRun_19 rfl (lv_at hl 1 rfl) ?_
        refine lv_icmp_ne (tgt := 29) hx hb dX6_behindRun_20 (by decide) (fun c_7 => ?_) (fun c_7 => ?_)
        · have hF := zif c_7 hF
          exact kx_1_0 x3_2 (Option.some.inj hF) _ _ _ hP hD hS (lv_sub hl [2] rfl)
        · have hF := zit c_7 hF
          refine lv_iinc (v := x3_2 + (1 : Int32)) (lv' := [(3, .int (x3_2 + (1 : Int32))), (0, .ref (E.1 5)), (2, .int x2_1)]) hx hb dX6_behindRun_23 hl (k := 2) rfl rfl (by decide) rfl (fun ls hl => ?_)
          refine lv_goto (tgt := 2) hx hb dX6_behindRun_26 (by decide) ?_
          exact ih (x3_2 + (1 : Int32)) _ hF kx_1_0 _ _ _ hP hD hS (lv_sub hl [1, 2, 0] rfl)
  exact lp_1 rd x2 N x1 _ ho_8 kx_1_0 _ _ _ hP hD hS (lv_sub hl [1, 3, 0] rfl)
def fX6_advance (N : Nat) (rd : zOS) : Option zOS :=
  (fX6_behindRun N rd (rd.1 6) (0 : Int32)).bind fun u_1 =>
  if (rd.1 0) ≤ u_1 then
    some (zpi (zpi (zpi rd 5 u_1) 4 (5 : Int32)) 6 (if (rd.1 0) < (u_1 + (1 : Int32)) then (rd.1 0) else (u_1 + (1 : Int32))))
  else
    if u_1 < 0 ∨ 500 ≤ u_1.toNatClampNeg then none else
    (fX6_sortOf N (rd.2 3 u_1.toNatClampNeg)).bind fun u_7 =>
    if u_7 = (1 : Int32) then
      (fX6_behindRun N (zpi (zpi rd 5 u_1) 4 u_7) u_1 u_7).bind fun u_9 =>
      if u_7 = (2 : Int32) then
        (fX6_readFigures N (zpi (zpi (zpi rd 5 u_1) 4 u_7) 6 u_9)).bind fun u_11 =>
        some u_11
      else
        some (zpi (zpi (zpi rd 5 u_1) 4 u_7) 6 u_9)
    else
      if u_7 = (2 : Int32) then
        (fX6_behindRun N (zpi (zpi rd 5 u_1) 4 u_7) u_1 u_7).bind fun u_15 =>
        if u_7 = (2 : Int32) then
          (fX6_readFigures N (zpi (zpi (zpi rd 5 u_1) 4 u_7) 6 u_15)).bind fun u_17 =>
          some u_17
        else
          some (zpi (zpi (zpi rd 5 u_1) 4 u_7) 6 u_15)
      else
        if u_7 = (2 : Int32) then
          (fX6_readFigures N (zpi (zpi (zpi rd 5 u_1) 4 u_7) 6 (if (rd.1 0) < (u_1 + (1 : Int32)) then (rd.1 0) else (u_1 + (1 : Int32))))).bind fun u_14 =>
          some u_14
        else
          some (zpi (zpi (zpi rd 5 u_1) 4 u_7) 6 (if (rd.1 0) < (u_1 + (1 : Int32)) then (rd.1 0) else (u_1 + (1 : Int32))))
set_option maxHeartbeats 4000000 in
set_option maxRecDepth 100000 in
theorem qX6_advance (l : Launch) (D : va_G) (E : zE) (KL : List Nat) (kc : Nat → zKC) (on : zNS) (rw rd ft tr : zOS) (la : Nat → zLS) (mo : zMS) (N sz : Nat)  (out : zOS) (hF : fX6_advance N rd = some out) : zCv l yX6_advance zwX6_advance ({ frames := 2, cells := 0, slots := 0, locals := 43 }) [.ref (E.1 5)] D E sz (zW E KL kc on rw rd ft tr la mo) (zW E KL kc on rw out ft tr la mo) 0 0 := by
  refine zent_v (cc := cX6_advance) (nL := 1) (by decide) rfl (Nat.le_of_ble_eq_true rfl) ?_
  intro p e s m args below meth c Q A hx hb hml hown hts hA hK hP hD hS hE ls hl hend
  have hown : s.vm.findClass RX6 = some m.cls := hown
  have hl : lv_has ls 1 [(0, .ref (E.1 5))] := hl
  rw [fX6_advance] at hF
  refine lv_aload_n hx hb dX6_advance_0 rfl (lv_at hl 0 rfl) ?_
  refine lv_aload_n hx hb dX6_advance_1 rfl (lv_at hl 0 rfl) ?_
  refine lv_aload_n hx hb dX6_advance_2 rfl (lv_at hl 0 rfl) ?_
  refine va_get (D := D) (ci := 5) (v := .int (rd.1 6)) (C := RX6) (T := TX6) (N := 8) hx hb hts (zi iX6) hown hK hP 5 (zg_rd _ _ _ _ _ _ _ _ _ _) rfl 6 (by decide) (zh hts k0_64) (fun _ h9 => h9) rfl dX6_advance_3 ?_
  refine lv_iconst (v := 0) hx hb dX6_advance_6 (by decide) ?_
  obtain ⟨u_1, hu_1, hF⟩ := zbd hF
  refine zcall_i (va_runV (As := [.int (rd.1 6), .int (0 : Int32)]) (rest := [.ref (E.1 5)]) ⟨hx, hb, hml, hown, hts⟩ (qX6_behindRun l D E KL kc on rw rd ft tr la mo N _ (rd.1 6) (0 : Int32) _ hu_1) (cwV 2 hts (zgV k1_107 k1_109 kp0_3 k0_4 k1_110) rfl rfl rfl (by decide +kernel) ⟨Nat.le_of_ble_eq_true rfl, Nat.le_of_ble_eq_true rfl⟩) (zpv hE hS hA hK hP hD (va_recv hK hP (ci := 5) (q0 := 5) rfl (zg_rd _ _ _ _ _ _ _ _ _ _))) rfl rfl hl.1 rfl (lv_room (Nat.le_of_ble_eq_true rfl)) dX6_advance_7 ⟨Nat.zero_le _, Nat.zero_le _⟩) hD hS hA (fun H locs hP hD hS => ?_)
  refine va_put (D := D) (ci := 5) (v := .int u_1) (ty := .int) (C := RX6) (T := TX6) (N := 8) hx hb hts (zi iX6) tyX6 tyX6_ok nmX6 hown hK hP hD hS 5 (zg_rd _ _ _ _ _ _ _ _ _ _) rfl 5 (by decide) (zh hts k0_63) (fun _ h9 => h9) rfl (by decide +kernel) rfl rfl (Nat.le_of_ble_eq_true rfl) dX6_advance_10 (fun H locs hP hD hS => ?_)
  rw [zs_rd_5] at hP hD
  refine lv_aload_n hx hb dX6_advance_13 rfl (lv_at hl 0 rfl) ?_
  refine lv_aload_n hx hb dX6_advance_14 rfl (lv_at hl 0 rfl) ?_
  refine va_get (D := D) (ci := 5) (v := .int u_1) (C := RX6) (T := TX6) (N := 8) hx hb hts (zi iX6) hown hK hP 5 (zg_rd _ _ _ _ _ _ _ _ _ _) rfl 5 (by decide) (zh hts k0_63) (fun _ h9 => h9) rfl dX6_advance_15 ?_
  refine lv_aload_n hx hb dX6_advance_18 rfl (lv_at hl 0 rfl) ?_
  refine va_get (D := D) (ci := 5) (v := .int (rd.1 0)) (C := RX6) (T := TX6) (N := 8) hx hb hts (zi iX6) hown hK hP 5 (zg_rd _ _ _ _ _ _ _ _ _ _) rfl 0 (by decide) (zh hts k0_55) (fun _ h9 => h9) rfl dX6_advance_19 ?_
  refine lv_icmp_ge (tgt := 40) hx hb dX6_advance_22 (by decide) (fun c_2 => ?_) (fun c_2 => ?_)
  · have hF := zit c_2 hF
    refine lv_iconst (v := 5) hx hb dX6_advance_40 (by decide) ?_
    refine va_put (D := D) (ci := 5) (v := .int (5 : Int32)) (ty := .int) (C := RX6) (T := TX6) (N := 8) hx hb hts (zi iX6) tyX6 tyX6_ok nmX6 hown hK hP hD hS 5 (zg_rd _ _ _ _ _ _ _ _ _ _) rfl 4 (by decide) (zh hts k0_62) (fun _ h9 => h9) rfl (by decide +kernel) rfl rfl (Nat.le_of_ble_eq_true rfl) dX6_advance_41 (fun H locs hP hD hS => ?_)
    rw [zs_rd_4] at hP hD
    refine lv_aload_n hx hb dX6_advance_44 rfl (lv_at hl 0 rfl) ?_
    refine va_get (D := D) (ci := 5) (v := .int (5 : Int32)) (C := RX6) (T := TX6) (N := 8) hx hb hts (zi iX6) hown hK hP 5 (zg_rd _ _ _ _ _ _ _ _ _ _) rfl 4 (by decide) (zh hts k0_62) (fun _ h9 => h9) rfl dX6_advance_45 ?_
    refine lv_iconst (v := 1) hx hb dX6_advance_48 (by decide) ?_
    refine lv_icmp_eq (tgt := 60) hx hb dX6_advance_49 (by decide) (fun c_3 => ?_) (fun c_3 => ?_)
    · exact absurd c_3 (by decide)
    · refine lv_aload_n hx hb dX6_advance_52 rfl (lv_at hl 0 rfl) ?_
      refine va_get (D := D) (ci := 5) (v := .int (5 : Int32)) (C := RX6) (T := TX6) (N := 8) hx hb hts (zi iX6) hown hK hP 5 (zg_rd _ _ _ _ _ _ _ _ _ _) rfl 4 (by decide) (zh hts k0_62) (fun _ h9 => h9) rfl dX6_advance_53 ?_
      refine lv_iconst (v := 2) hx hb dX6_advance_56 (by decide) ?_
      refine lv_icmp_ne (tgt := 79) hx hb dX6_advance_57 (by decide) (fun c_4 => ?_) (fun c_4 => ?_)
      · refine lv_aload_n hx hb dX6_advance_79 rfl (lv_at hl 0 rfl) ?_
        refine lv_aload_n hx hb dX6_advance_80 rfl (lv_at hl 0 rfl) ?_
        refine va_get (D := D) (ci := 5) (v := .int u_1) (C := RX6) (T := TX6) (N := 8) hx hb hts (zi iX6) hown hK hP 5 (zg_rd _ _ _ _ _ _ _ _ _ _) rfl 5 (by decide) (zh hts k0_63) (fun _ h9 => h9) rfl dX6_advance_81 ?_
        refine lv_iconst (v := 1) hx hb dX6_advance_84 (by decide) ?_
        refine lv_iadd hx hb dX6_advance_85 ?_
        refine lv_aload_n hx hb dX6_advance_86 rfl (lv_at hl 0 rfl) ?_
        refine va_get (D := D) (ci := 5) (v := .int (rd.1 0)) (C := RX6) (T := TX6) (N := 8) hx hb hts (zi iX6) hown hK hP 5 (zg_rd _ _ _ _ _ _ _ _ _ _) rfl 0 (by decide) (zh hts k0_55) (fun _ h9 => h9) rfl dX6_advance_87 ?_
        refine va_mmin hx hb (hml.trans hl.1.symm) (own := RX6) hown (zh hts k1_114) (zh hts k1_115) (zh hts k0_10) (zh hts k1_116) (Nat.le_of_ble_eq_true rfl) (Nat.le_of_ble_eq_true rfl) (Nat.zero_le _) (Nat.zero_le _) dX6_advance_90 ?_
        refine va_put (D := D) (ci := 5) (v := .int (if (rd.1 0) < (u_1 + (1 : Int32)) then (rd.1 0) else (u_1 + (1 : Int32)))) (ty := .int) (C := RX6) (T := TX6) (N := 8) hx hb hts (zi iX6) tyX6 tyX6_ok nmX6 hown hK hP hD hS 5 (zg_rd _ _ _ _ _ _ _ _ _ _) rfl 6 (by decide) (zh hts k0_64) (fun _ h9 => h9) rfl (by decide +kernel) rfl rfl (Nat.le_of_ble_eq_true rfl) dX6_advance_93 (fun H locs hP hD hS => ?_)
        rw [zs_rd_6] at hP hD
        refine lv_aload_n hx hb dX6_advance_96 rfl (lv_at hl 0 rfl) ?_
        refine va_get (D := D) (ci := 5) (v := .int (5 : Int32)) (C := RX6) (T := TX6) (N := 8) hx hb hts (zi iX6) hown hK hP 5 (zg_rd _ _ _ _ _ _ _ _ _ _) rfl 4 (by decide) (zh hts k0_62) (fun _ h9 => h9) rfl dX6_advance_97 ?_
        refine lv_iconst (v := 2) hx hb dX6_advance_100 (by decide) ?_
        refine lv_icmp_ne (tgt := 108) hx hb dX6_advance_101 (by decide) (fun c_5 => ?_) (fun c_5 => ?_)
        · obtain rfl := Option.some.inj hF
          exact hend _ _ _ _ hP hD hS dX6_advance_108
        · exact absurd c_5 (by decide)
      · exact absurd c_4 (by decide)
  · have hF := zif c_2 hF
    refine lv_aload_n hx hb dX6_advance_25 rfl (lv_at hl 0 rfl) ?_
    refine va_get (D := D) (ci := 5) (v := .ref (E.1 6)) (C := RX6) (T := TX6) (N := 8) hx hb hts (zi iX6) hown hK hP 5 (zg_rd _ _ _ _ _ _ _ _ _ _) rfl 3 (by decide) (zh hts k0_61) (fun _ h9 => h9) rfl dX6_advance_26 ?_
    refine lv_aload_n hx hb dX6_advance_29 rfl (lv_at hl 0 rfl) ?_
    refine va_get (D := D) (ci := 5) (v := .int u_1) (C := RX6) (T := TX6) (N := 8) hx hb hts (zi iX6) hown hK hP 5 (zg_rd _ _ _ _ _ _ _ _ _ _) rfl 5 (by decide) (zh hts k0_63) (fun _ h9 => h9) rfl dX6_advance_30 ?_
    obtain ⟨g_6, hF⟩ := zgd hF
    refine zbald (v := rd.2 3 u_1.toNatClampNeg) hx hb hK hP 6 0 (zg_rd_3 _ _ _ _ _ _ _ _ _ _) rfl g_6 rfl dX6_advance_33 ?_
    obtain ⟨u_7, hu_7, hF⟩ := zbd hF
    refine zcall_i (va_runS (As := [.int (rd.2 3 u_1.toNatClampNeg)]) (rest := [.ref (E.1 5)]) ⟨hx, hb, hml, hown, hts⟩ (qX6_sortOf l D E KL kc on rw (zpi rd 5 u_1) ft tr la mo N _ (rd.2 3 u_1.toNatClampNeg) _ hu_7) (va_cwS 1 hts (zgS k1_111 k1_112 k0_4 k1_113) rfl rfl rfl (by decide +kernel) ⟨Nat.le_of_ble_eq_true rfl, Nat.le_of_ble_eq_true rfl⟩) (zps hE hS hA hK hP hD) rfl rfl hl.1 rfl (lv_room (Nat.le_of_ble_eq_true rfl)) dX6_advance_34 ⟨Nat.zero_le _, Nat.zero_le _⟩) hD hS hA (fun H locs hP hD hS => ?_)
    refine lv_goto (tgt := 41) hx hb dX6_advance_37 (by decide) ?_
    refine va_put (D := D) (ci := 5) (v := .int u_7) (ty := .int) (C := RX6) (T := TX6) (N := 8) hx hb hts (zi iX6) tyX6 tyX6_ok nmX6 hown hK hP hD hS 5 (zg_rd _ _ _ _ _ _ _ _ _ _) rfl 4 (by decide) (zh hts k0_62) (fun _ h9 => h9) rfl (by decide +kernel) rfl rfl (Nat.le_of_ble_eq_true rfl) dX6_advance_41 (fun H locs hP hD hS => ?_)
    rw [zs_rd_4] at hP hD
    refine lv_aload_n hx hb dX6_advance_44 rfl (lv_at hl 0 rfl) ?_
    refine va_get (D := D) (ci := 5) (v := .int u_7) (C := RX6) (T := TX6) (N := 8) hx hb hts (zi iX6) hown hK hP 5 (zg_rd _ _ _ _ _ _ _ _ _ _) rfl 4 (by decide) (zh hts k0_62) (fun _ h9 => h9) rfl dX6_advance_45 ?_
    refine lv_iconst (v := 1) hx hb dX6_advance_48 (by decide) ?_
    refine lv_icmp_eq (tgt := 60) hx hb dX6_advance_49 (by decide) (fun c_8 => ?_) (fun c_8 => ?_)
    · have hF := zit c_8 hF
      refine lv_aload_n hx hb dX6_advance_60 rfl (lv_at hl 0 rfl) ?_
      refine lv_aload_n hx hb dX6_advance_61 rfl (lv_at hl 0 rfl) ?_
      refine lv_aload_n hx hb dX6_advance_62 rfl (lv_at hl 0 rfl) ?_
      refine va_get (D := D) (ci := 5) (v := .int u_1) (C := RX6) (T := TX6) (N := 8) hx hb hts (zi iX6) hown hK hP 5 (zg_rd _ _ _ _ _ _ _ _ _ _) rfl 5 (by decide) (zh hts k0_63) (fun _ h9 => h9) rfl dX6_advance_63 ?_
      refine lv_aload_n hx hb dX6_advance_66 rfl (lv_at hl 0 rfl) ?_
      refine va_get (D := D) (ci := 5) (v := .int u_7) (C := RX6) (T := TX6) (N := 8) hx hb hts (zi iX6) hown hK hP 5 (zg_rd _ _ _ _ _ _ _ _ _ _) rfl 4 (by decide) (zh hts k0_62) (fun _ h9 => h9) rfl dX6_advance_67 ?_
      obtain ⟨u_9, hu_9, hF⟩ := zbd hF
      refine zcall_i (va_runV (As := [.int u_1, .int u_7]) (rest := [.ref (E.1 5)]) ⟨hx, hb, hml, hown, hts⟩ (qX6_behindRun l D E KL kc on rw (zpi (zpi rd 5 u_1) 4 u_7) ft tr la mo N _ u_1 u_7 _ hu_9) (cwV 2 hts (zgV k1_107 k1_109 kp0_3 k0_4 k1_110) rfl rfl rfl (by decide +kernel) ⟨Nat.le_of_ble_eq_true rfl, Nat.le_of_ble_eq_true rfl⟩) (zpv hE hS hA hK hP hD (va_recv hK hP (ci := 5) (q0 := 5) rfl (zg_rd _ _ _ _ _ _ _ _ _ _))) rfl rfl hl.1 rfl (lv_room (Nat.le_of_ble_eq_true rfl)) dX6_advance_70 ⟨Nat.zero_le _, Nat.zero_le _⟩) hD hS hA (fun H locs hP hD hS => ?_)
      refine va_put (D := D) (ci := 5) (v := .int u_9) (ty := .int) (C := RX6) (T := TX6) (N := 8) hx hb hts (zi iX6) tyX6 tyX6_ok nmX6 hown hK hP hD hS 5 (zg_rd _ _ _ _ _ _ _ _ _ _) rfl 6 (by decide) (zh hts k0_64) (fun _ h9 => h9) rfl (by decide +kernel) rfl rfl (Nat.le_of_ble_eq_true rfl) dX6_advance_73 (fun H locs hP hD hS => ?_)
      rw [zs_rd_6] at hP hD
      refine lv_goto (tgt := 96) hx hb dX6_advance_76 (by decide) ?_
      refine lv_aload_n hx hb dX6_advance_96 rfl (lv_at hl 0 rfl) ?_
      refine va_get (D := D) (ci := 5) (v := .int u_7) (C := RX6) (T := TX6) (N := 8) hx hb hts (zi iX6) hown hK hP 5 (zg_rd _ _ _ _ _ _ _ _ _ _) rfl 4 (by decide) (zh hts k0_62) (fun _ h9 => h9) rfl dX6_advance_97 ?_
      refine lv_iconst (v := 2) hx hb dX6_advance_100 (by decide) ?_
      refine lv_icmp_ne (tgt := 108) hx hb dX6_advance_101 (by decide) (fun c_10 => ?_) (fun c_10 => ?_)
      · have hF := zif c_10 hF
        obtain rfl := Option.some.inj hF
        exact hend _ _ _ _ hP hD hS dX6_advance_108
      · have hF := zit c_10 hF
        refine lv_aload_n hx hb dX6_advance_104 rfl (lv_at hl 0 rfl) ?_
        obtain ⟨u_11, hu_11, hF⟩ := zbd hF
        refine zcall_v (va_runV (As := []) (rest := []) ⟨hx, hb, hml, hown, hts⟩ (qX6_readFigures l D E KL kc on rw (zpi (zpi (zpi rd 5 u_1) 4 u_7) 6 u_9) ft tr la mo N _ _ hu_11) (cwV 0 hts (zgV k1_117 k1_119 kp0_4 k0_4 k1_120) rfl rfl rfl (by decide +kernel) ⟨Nat.le_of_ble_eq_true rfl, Nat.le_of_ble_eq_true rfl⟩) (zpv hE hS hA hK hP hD (va_recv hK hP (ci := 5) (q0 := 5) rfl (zg_rd _ _ _ _ _ _ _ _ _ _))) rfl rfl hl.1 rfl (lv_room (Nat.le_of_ble_eq_true rfl)) dX6_advance_105 ⟨Nat.zero_le _, Nat.zero_le _⟩) hD hS hA (fun H locs hP hD hS => ?_)
        obtain rfl := Option.some.inj hF
        exact hend _ _ _ _ hP hD hS dX6_advance_108
    · have hF := zif c_8 hF
      refine lv_aload_n hx hb dX6_advance_52 rfl (lv_at hl 0 rfl) ?_
      refine va_get (D := D) (ci := 5) (v := .int u_7) (C := RX6) (T := TX6) (N := 8) hx hb hts (zi iX6) hown hK hP 5 (zg_rd _ _ _ _ _ _ _ _ _ _) rfl 4 (by decide) (zh hts k0_62) (fun _ h9 => h9) rfl dX6_advance_53 ?_
      refine lv_iconst (v := 2) hx hb dX6_advance_56 (by decide) ?_
      refine lv_icmp_ne (tgt := 79) hx hb dX6_advance_57 (by decide) (fun c_12 => ?_) (fun c_12 => ?_)
      · have hF := zif c_12 hF
        refine lv_aload_n hx hb dX6_advance_79 rfl (lv_at hl 0 rfl) ?_
        refine lv_aload_n hx hb dX6_advance_80 rfl (lv_at hl 0 rfl) ?_
        refine va_get (D := D) (ci := 5) (v := .int u_1) (C := RX6) (T := TX6) (N := 8) hx hb hts (zi iX6) hown hK hP 5 (zg_rd _ _ _ _ _ _ _ _ _ _) rfl 5 (by decide) (zh hts k0_63) (fun _ h9 => h9) rfl dX6_advance_81 ?_
        refine lv_iconst (v := 1) hx hb dX6_advance_84 (by decide) ?_
        refine lv_iadd hx hb dX6_advance_85 ?_
        refine lv_aload_n hx hb dX6_advance_86 rfl (lv_at hl 0 rfl) ?_
        refine va_get (D := D) (ci := 5) (v := .int (rd.1 0)) (C := RX6) (T := TX6) (N := 8) hx hb hts (zi iX6) hown hK hP 5 (zg_rd _ _ _ _ _ _ _ _ _ _) rfl 0 (by decide) (zh hts k0_55) (fun _ h9 => h9) rfl dX6_advance_87 ?_
        refine va_mmin hx hb (hml.trans hl.1.symm) (own := RX6) hown (zh hts k1_114) (zh hts k1_115) (zh hts k0_10) (zh hts k1_116) (Nat.le_of_ble_eq_true rfl) (Nat.le_of_ble_eq_true rfl) (Nat.zero_le _) (Nat.zero_le _) dX6_advance_90 ?_
        refine va_put (D := D) (ci := 5) (v := .int (if (rd.1 0) < (u_1 + (1 : Int32)) then (rd.1 0) else (u_1 + (1 : Int32)))) (ty := .int) (C := RX6) (T := TX6) (N := 8) hx hb hts (zi iX6) tyX6 tyX6_ok nmX6 hown hK hP hD hS 5 (zg_rd _ _ _ _ _ _ _ _ _ _) rfl 6 (by decide) (zh hts k0_64) (fun _ h9 => h9) rfl (by decide +kernel) rfl rfl (Nat.le_of_ble_eq_true rfl) dX6_advance_93 (fun H locs hP hD hS => ?_)
        rw [zs_rd_6] at hP hD
        refine lv_aload_n hx hb dX6_advance_96 rfl (lv_at hl 0 rfl) ?_
        refine va_get (D := D) (ci := 5) (v := .int u_7) (C := RX6) (T := TX6) (N := 8) hx hb hts (zi iX6) hown hK hP 5 (zg_rd _ _ _ _ _ _ _ _ _ _) rfl 4 (by decide) (zh hts k0_62) (fun _ h9 => h9) rfl dX6_advance_97 ?_
        refine lv_iconst (v := 2) hx hb dX6_advance_100 (by decide) ?_
        refine lv_icmp_ne (tgt := 108) hx hb dX6_advance_101 (by decide) (fun c_13 => ?_) (fun c_13 => ?_)
        · have hF := zif c_13 hF
          obtain rfl := Option.some.inj hF
          exact hend _ _ _ _ hP hD hS dX6_advance_108
        · have hF := zit c_13 hF
          refine lv_aload_n hx hb dX6_advance_104 rfl (lv_at hl 0 rfl) ?_
          obtain ⟨u_14, hu_14, hF⟩ := zbd hF
          refine zcall_v (va_runV (As := []) (rest := []) ⟨hx, hb, hml, hown, hts⟩ (qX6_readFigures l D E KL kc on rw (zpi (zpi (zpi rd 5 u_1) 4 u_7) 6 (if (rd.1 0) < (u_1 + (1 : Int32)) then (rd.1 0) else (u_1 + (1 : Int32)))) ft tr la mo N _ _ hu_14) (cwV 0 hts (zgV k1_117 k1_119 kp0_4 k0_4 k1_120) rfl rfl rfl (by decide +kernel) ⟨Nat.le_of_ble_eq_true rfl, Nat.le_of_ble_eq_true rfl⟩) (zpv hE hS hA hK hP hD (va_recv hK hP (ci := 5) (q0 := 5) rfl (zg_rd _ _ _ _ _ _ _ _ _ _))) rfl rfl hl.1 rfl (lv_room (Nat.le_of_ble_eq_true rfl)) dX6_advance_105 ⟨Nat.zero_le _, Nat.zero_le _⟩) hD hS hA (fun H locs hP hD hS => ?_)
          obtain rfl := Option.some.inj hF
          exact hend _ _ _ _ hP hD hS dX6_advance_108
      · have hF := zit c_12 hF
        refine lv_aload_n hx hb dX6_advance_60 rfl (lv_at hl 0 rfl) ?_
        refine lv_aload_n hx hb dX6_advance_61 rfl (lv_at hl 0 rfl) ?_
        refine lv_aload_n hx hb dX6_advance_62 rfl (lv_at hl 0 rfl) ?_
        refine va_get (D := D) (ci := 5) (v := .int u_1) (C := RX6) (T := TX6) (N := 8) hx hb hts (zi iX6) hown hK hP 5 (zg_rd _ _ _ _ _ _ _ _ _ _) rfl 5 (by decide) (zh hts k0_63) (fun _ h9 => h9) rfl dX6_advance_63 ?_
        refine lv_aload_n hx hb dX6_advance_66 rfl (lv_at hl 0 rfl) ?_
        refine va_get (D := D) (ci := 5) (v := .int u_7) (C := RX6) (T := TX6) (N := 8) hx hb hts (zi iX6) hown hK hP 5 (zg_rd _ _ _ _ _ _ _ _ _ _) rfl 4 (by decide) (zh hts k0_62) (fun _ h9 => h9) rfl dX6_advance_67 ?_
        obtain ⟨u_15, hu_15, hF⟩ := zbd hF
        refine zcall_i (va_runV (As := [.int u_1, .int u_7]) (rest := [.ref (E.1 5)]) ⟨hx, hb, hml, hown, hts⟩ (qX6_behindRun l D E KL kc on rw (zpi (zpi rd 5 u_1) 4 u_7) ft tr la mo N _ u_1 u_7 _ hu_15) (cwV 2 hts (zgV k1_107 k1_109 kp0_3 k0_4 k1_110) rfl rfl rfl (by decide +kernel) ⟨Nat.le_of_ble_eq_true rfl, Nat.le_of_ble_eq_true rfl⟩) (zpv hE hS hA hK hP hD (va_recv hK hP (ci := 5) (q0 := 5) rfl (zg_rd _ _ _ _ _ _ _ _ _ _))) rfl rfl hl.1 rfl (lv_room (Nat.le_of_ble_eq_true rfl)) dX6_advance_70 ⟨Nat.zero_le _, Nat.zero_le _⟩) hD hS hA (fun H locs hP hD hS => ?_)
        refine va_put (D := D) (ci := 5) (v := .int u_15) (ty := .int) (C := RX6) (T := TX6) (N := 8) hx hb hts (zi iX6) tyX6 tyX6_ok nmX6 hown hK hP hD hS 5 (zg_rd _ _ _ _ _ _ _ _ _ _) rfl 6 (by decide) (zh hts k0_64) (fun _ h9 => h9) rfl (by decide +kernel) rfl rfl (Nat.le_of_ble_eq_true rfl) dX6_advance_73 (fun H locs hP hD hS => ?_)
        rw [zs_rd_6] at hP hD
        refine lv_goto (tgt := 96) hx hb dX6_advance_76 (by decide) ?_
        refine lv_aload_n hx hb dX6_advance_96 rfl (lv_at hl 0 rfl) ?_
        refine va_get (D := D) (ci := 5) (v := .int u_7) (C := RX6) (T := TX6) (N := 8) hx hb hts (zi iX6) hown hK hP 5 (zg_rd _ _ _ _ _ _ _ _ _ _) rfl 4 (by decide) (zh hts k0_62) (fun _ h9 => h9) rfl dX6_advance_97 ?_
        refine lv_iconst (v := 2) hx hb dX6_advance_100 (by decide) ?_
        refine lv_icmp_ne (tgt := 108) hx hb dX6_advance_101 (by decide) (fun c_16 => ?_) (fun c_16 => ?_)
        · have hF := zif c_16 hF
          obtain rfl := Option.some.inj hF
          exact hend _ _ _ _ hP hD hS dX6_advance_108
        · have hF := zit c_16 hF
          refine lv_aload_n hx hb dX6_advance_104 rfl (lv_at hl 0 rfl) ?_
          obtain ⟨u_17, hu_17, hF⟩ := zbd hF
          refine zcall_v (va_runV (As := []) (rest := []) ⟨hx, hb, hml, hown, hts⟩ (qX6_readFigures l D E KL kc on rw (zpi (zpi (zpi rd 5 u_1) 4 u_7) 6 u_15) ft tr la mo N _ _ hu_17) (cwV 0 hts (zgV k1_117 k1_119 kp0_4 k0_4 k1_120) rfl rfl rfl (by decide +kernel) ⟨Nat.le_of_ble_eq_true rfl, Nat.le_of_ble_eq_true rfl⟩) (zpv hE hS hA hK hP hD (va_recv hK hP (ci := 5) (q0 := 5) rfl (zg_rd _ _ _ _ _ _ _ _ _ _))) rfl rfl hl.1 rfl (lv_room (Nat.le_of_ble_eq_true rfl)) dX6_advance_105 ⟨Nat.zero_le _, Nat.zero_le _⟩) hD hS hA (fun H locs hP hD hS => ?_)
          obtain rfl := Option.some.inj hF
          exact hend _ _ _ _ hP hD hS dX6_advance_108
def fX6_takeKind (N : Nat) (rd : zOS) : Option (Int32 × zOS) :=
  (fX6_kindNamed N rd).bind fun u_1 =>
  if u_1 = 0 then
    (fX6_stick N rd (1 : Int32)).bind fun u_4 =>
    some (u_1, u_4)
  else
    (fX6_advance N rd).bind fun u_3 =>
    some (u_1, u_3)
set_option maxHeartbeats 4000000 in
set_option maxRecDepth 100000 in
theorem qX6_takeKind (l : Launch) (D : va_G) (E : zE) (KL : List Nat) (kc : Nat → zKC) (on : zNS) (rw rd ft tr : zOS) (la : Nat → zLS) (mo : zMS) (N sz : Nat)  (out : Int32 × zOS) (hF : fX6_takeKind N rd = some out) : zCi l yX6_takeKind zwX6_takeKind ({ frames := 6, cells := 0, slots := 0, locals := 127 }) [.ref (E.1 5)] D E sz (zW E KL kc on rw rd ft tr la mo) (zW E KL kc on rw out.2 ft tr la mo) out.1 0 0 := by
  refine zent_i (cc := cX6_takeKind) (nL := 2) (by decide) rfl (Nat.le_of_ble_eq_true rfl) ?_
  intro p e s m args below meth c Q A hx hb hml hown hts hA hK hP hD hS hE ls hl hend
  have hown : s.vm.findClass RX6 = some m.cls := hown
  have hl : lv_has ls 2 [(0, .ref (E.1 5))] := hl
  rw [fX6_takeKind] at hF
  refine lv_aload_n hx hb dX6_takeKind_0 rfl (lv_at hl 0 rfl) ?_
  obtain ⟨u_1, hu_1, hF⟩ := zbd hF
  refine zcall_i (va_runV (As := []) (rest := []) ⟨hx, hb, hml, hown, hts⟩ (qX6_kindNamed l D E KL kc on rw rd ft tr la mo N _ _ hu_1) (cwV 0 hts (zgV k1_224 k1_226 kp1_0 k0_4 k1_227) rfl rfl rfl (by decide +kernel) ⟨Nat.le_of_ble_eq_true rfl, Nat.le_of_ble_eq_true rfl⟩) (zpv hE hS hA hK hP hD (va_recv hK hP (ci := 5) (q0 := 5) rfl (zg_rd _ _ _ _ _ _ _ _ _ _))) rfl rfl hl.1 rfl (lv_room (Nat.le_of_ble_eq_true rfl)) dX6_takeKind_1 ⟨Nat.zero_le _, Nat.zero_le _⟩) hD hS hA (fun H locs hP hD hS => ?_)
  refine lv_istore_n (lv' := [(1, .int u_1), (0, .ref (E.1 5))]) hx hb dX6_takeKind_4 rfl hl (by decide) rfl (fun ls hl => ?_)
  refine lv_iload_n hx hb dX6_takeKind_5 rfl (lv_at hl 0 rfl) ?_
  refine lv_if_ne (tgt := 17) hx hb dX6_takeKind_6 (by decide) (fun c_2 => ?_) (fun c_2 => ?_)
  · have hF := zif c_2 hF
    refine lv_aload_n hx hb dX6_takeKind_17 rfl (lv_at hl 1 rfl) ?_
    obtain ⟨u_3, hu_3, hF⟩ := zbd hF
    refine zcall_v (va_runV (As := []) (rest := []) ⟨hx, hb, hml, hown, hts⟩ (qX6_advance l D E KL kc on rw rd ft tr la mo N _ _ hu_3) (cwV 0 hts (zgV k1_103 k1_105 kp0_2 k0_4 k1_106) rfl rfl rfl (by decide +kernel) ⟨Nat.le_of_ble_eq_true rfl, Nat.le_of_ble_eq_true rfl⟩) (zpv hE hS hA hK hP hD (va_recv hK hP (ci := 5) (q0 := 5) rfl (zg_rd _ _ _ _ _ _ _ _ _ _))) rfl rfl hl.1 rfl (lv_room (Nat.le_of_ble_eq_true rfl)) dX6_takeKind_18 ⟨Nat.zero_le _, Nat.zero_le _⟩) hD hS hA (fun H locs hP hD hS => ?_)
    refine lv_iload_n hx hb dX6_takeKind_21 rfl (lv_at hl 0 rfl) ?_
    obtain rfl := Option.some.inj hF
    exact hend _ _ _ _ hP hD hS dX6_takeKind_22
  · have hF := zit c_2 hF
    refine lv_aload_n hx hb dX6_takeKind_9 rfl (lv_at hl 1 rfl) ?_
    refine lv_iconst (v := 1) hx hb dX6_takeKind_10 (by decide) ?_
    obtain ⟨u_4, hu_4, hF⟩ := zbd hF
    refine zcall_v (va_runV (As := [.int (1 : Int32)]) (rest := []) ⟨hx, hb, hml, hown, hts⟩ (qX6_stick l D E KL kc on rw rd ft tr la mo N _ (1 : Int32) _ hu_4) (cwV 1 hts (zgV k1_182 k1_184 kp0_8 k0_4 k1_185) rfl rfl rfl (by decide +kernel) ⟨Nat.le_of_ble_eq_true rfl, Nat.le_of_ble_eq_true rfl⟩) (zpv hE hS hA hK hP hD (va_recv hK hP (ci := 5) (q0 := 5) rfl (zg_rd _ _ _ _ _ _ _ _ _ _))) rfl rfl hl.1 rfl (lv_room (Nat.le_of_ble_eq_true rfl)) dX6_takeKind_11 ⟨Nat.zero_le _, Nat.zero_le _⟩) hD hS hA (fun H locs hP hD hS => ?_)
    refine lv_goto (tgt := 21) hx hb dX6_takeKind_14 (by decide) ?_
    refine lv_iload_n hx hb dX6_takeKind_21 rfl (lv_at hl 0 rfl) ?_
    obtain rfl := Option.some.inj hF
    exact hend _ _ _ _ hP hD hS dX6_takeKind_22
def fX6_takeWord (N : Nat) (rd : zOS) (x1 : Nat) : Option zOS :=
  (fX6_isWord N rd x1).bind fun u_1 =>
  if u_1 = 0 then
    (fX6_stick N rd (1 : Int32)).bind fun u_3 =>
    some u_3
  else
    (fX6_advance N rd).bind fun u_4 =>
    some u_4
set_option maxHeartbeats 4000000 in
set_option maxRecDepth 100000 in
theorem qX6_takeWord (l : Launch) (D : va_G) (E : zE) (KL : List Nat) (kc : Nat → zKC) (on : zNS) (rw rd ft tr : zOS) (la : Nat → zLS) (mo : zMS) (N sz : Nat) (x1 : Nat) (out : zOS) (hF : fX6_takeWord N rd x1 = some out) : zCv l yX6_takeWord zwX6_takeWord ({ frames := 5, cells := 0, slots := 0, locals := 107 }) [.ref (E.1 5), .ref (E.2.2.2.2.2.1 x1)] D E sz (zW E KL kc on rw rd ft tr la mo) (zW E KL kc on rw out ft tr la mo) 0 0 := by
  refine zent_v (cc := cX6_takeWord) (nL := 2) (by decide) rfl (Nat.le_of_ble_eq_true rfl) ?_
  intro p e s m args below meth c Q A hx hb hml hown hts hA hK hP hD hS hE ls hl hend
  have hown : s.vm.findClass RX6 = some m.cls := hown
  have hl : lv_has ls 2 [(0, .ref (E.1 5)), (1, .ref (E.2.2.2.2.2.1 x1))] := hl
  rw [fX6_takeWord] at hF
  refine lv_aload_n hx hb dX6_takeWord_0 rfl (lv_at hl 0 rfl) ?_
  refine lv_aload_n hx hb dX6_takeWord_1 rfl (lv_at hl 1 rfl) ?_
  obtain ⟨u_1, hu_1, hF⟩ := zbd hF
  refine zcall_i (va_runV (As := [.ref (E.2.2.2.2.2.1 x1)]) (rest := []) ⟨hx, hb, hml, hown, hts⟩ (qX6_isWord l D E KL kc on rw rd ft tr la mo N _ x1 _ hu_1) (cwV 1 hts (zgV k1_130 k1_132 kp0_7 k0_4 k1_133) rfl rfl rfl (by decide +kernel) ⟨Nat.le_of_ble_eq_true rfl, Nat.le_of_ble_eq_true rfl⟩) (zpv hE hS hA hK hP hD (va_recv hK hP (ci := 5) (q0 := 5) rfl (zg_rd _ _ _ _ _ _ _ _ _ _))) rfl rfl hl.1 rfl (lv_room (Nat.le_of_ble_eq_true rfl)) dX6_takeWord_2 ⟨Nat.zero_le _, Nat.zero_le _⟩) hD hS hA (fun H locs hP hD hS => ?_)
  refine lv_if_eq (tgt := 15) hx hb dX6_takeWord_5 (by decide) (fun c_2 => ?_) (fun c_2 => ?_)
  · have hF := zit c_2 hF
    refine lv_aload_n hx hb dX6_takeWord_15 rfl (lv_at hl 0 rfl) ?_
    refine lv_iconst (v := 1) hx hb dX6_takeWord_16 (by decide) ?_
    obtain ⟨u_3, hu_3, hF⟩ := zbd hF
    refine zcall_v (va_runV (As := [.int (1 : Int32)]) (rest := []) ⟨hx, hb, hml, hown, hts⟩ (qX6_stick l D E KL kc on rw rd ft tr la mo N _ (1 : Int32) _ hu_3) (cwV 1 hts (zgV k1_182 k1_184 kp0_8 k0_4 k1_185) rfl rfl rfl (by decide +kernel) ⟨Nat.le_of_ble_eq_true rfl, Nat.le_of_ble_eq_true rfl⟩) (zpv hE hS hA hK hP hD (va_recv hK hP (ci := 5) (q0 := 5) rfl (zg_rd _ _ _ _ _ _ _ _ _ _))) rfl rfl hl.1 rfl (lv_room (Nat.le_of_ble_eq_true rfl)) dX6_takeWord_17 ⟨Nat.zero_le _, Nat.zero_le _⟩) hD hS hA (fun H locs hP hD hS => ?_)
    obtain rfl := Option.some.inj hF
    exact hend _ _ _ _ hP hD hS dX6_takeWord_20
  · have hF := zif c_2 hF
    refine lv_aload_n hx hb dX6_takeWord_8 rfl (lv_at hl 0 rfl) ?_
    obtain ⟨u_4, hu_4, hF⟩ := zbd hF
    refine zcall_v (va_runV (As := []) (rest := []) ⟨hx, hb, hml, hown, hts⟩ (qX6_advance l D E KL kc on rw rd ft tr la mo N _ _ hu_4) (cwV 0 hts (zgV k1_103 k1_105 kp0_2 k0_4 k1_106) rfl rfl rfl (by decide +kernel) ⟨Nat.le_of_ble_eq_true rfl, Nat.le_of_ble_eq_true rfl⟩) (zpv hE hS hA hK hP hD (va_recv hK hP (ci := 5) (q0 := 5) rfl (zg_rd _ _ _ _ _ _ _ _ _ _))) rfl rfl hl.1 rfl (lv_room (Nat.le_of_ble_eq_true rfl)) dX6_takeWord_9 ⟨Nat.zero_le _, Nat.zero_le _⟩) hD hS hA (fun H locs hP hD hS => ?_)
    refine lv_goto (tgt := 20) hx hb dX6_takeWord_12 (by decide) ?_
    obtain rfl := Option.some.inj hF
    exact hend _ _ _ _ hP hD hS dX6_takeWord_20
def fX6_takeSign (N : Nat) (rd : zOS) : Option zOS :=
  if (rd.1 4) = (3 : Int32) then
    (fX6_advance N rd).bind fun u_3 =>
    some u_3
  else
    (fX6_stick N rd (1 : Int32)).bind fun u_2 =>
    some u_2
set_option maxHeartbeats 4000000 in
set_option maxRecDepth 100000 in
theorem qX6_takeSign (l : Launch) (D : va_G) (E : zE) (KL : List Nat) (kc : Nat → zKC) (on : zNS) (rw rd ft tr : zOS) (la : Nat → zLS) (mo : zMS) (N sz : Nat)  (out : zOS) (hF : fX6_takeSign N rd = some out) : zCv l yX6_takeSign zwX6_takeSign ({ frames := 3, cells := 0, slots := 0, locals := 63 }) [.ref (E.1 5)] D E sz (zW E KL kc on rw rd ft tr la mo) (zW E KL kc on rw out ft tr la mo) 0 0 := by
  refine zent_v (cc := cX6_takeSign) (nL := 1) (by decide) rfl (Nat.le_of_ble_eq_true rfl) ?_
  intro p e s m args below meth c Q A hx hb hml hown hts hA hK hP hD hS hE ls hl hend
  have hown : s.vm.findClass RX6 = some m.cls := hown
  have hl : lv_has ls 1 [(0, .ref (E.1 5))] := hl
  rw [fX6_takeSign] at hF
  refine lv_aload_n hx hb dX6_takeSign_0 rfl (lv_at hl 0 rfl) ?_
  refine va_get (D := D) (ci := 5) (v := .int (rd.1 4)) (C := RX6) (T := TX6) (N := 8) hx hb hts (zi iX6) hown hK hP 5 (zg_rd _ _ _ _ _ _ _ _ _ _) rfl 4 (by decide) (zh hts k0_62) (fun _ h9 => h9) rfl dX6_takeSign_1 ?_
  refine lv_iconst (v := 3) hx hb dX6_takeSign_4 (by decide) ?_
  refine lv_icmp_ne (tgt := 15) hx hb dX6_takeSign_5 (by decide) (fun c_1 => ?_) (fun c_1 => ?_)
  · have hF := zif c_1 hF
    refine lv_aload_n hx hb dX6_takeSign_15 rfl (lv_at hl 0 rfl) ?_
    refine lv_iconst (v := 1) hx hb dX6_takeSign_16 (by decide) ?_
    obtain ⟨u_2, hu_2, hF⟩ := zbd hF
    refine zcall_v (va_runV (As := [.int (1 : Int32)]) (rest := []) ⟨hx, hb, hml, hown, hts⟩ (qX6_stick l D E KL kc on rw rd ft tr la mo N _ (1 : Int32) _ hu_2) (cwV 1 hts (zgV k1_182 k1_184 kp0_8 k0_4 k1_185) rfl rfl rfl (by decide +kernel) ⟨Nat.le_of_ble_eq_true rfl, Nat.le_of_ble_eq_true rfl⟩) (zpv hE hS hA hK hP hD (va_recv hK hP (ci := 5) (q0 := 5) rfl (zg_rd _ _ _ _ _ _ _ _ _ _))) rfl rfl hl.1 rfl (lv_room (Nat.le_of_ble_eq_true rfl)) dX6_takeSign_17 ⟨Nat.zero_le _, Nat.zero_le _⟩) hD hS hA (fun H locs hP hD hS => ?_)
    obtain rfl := Option.some.inj hF
    exact hend _ _ _ _ hP hD hS dX6_takeSign_20
  · have hF := zit c_1 hF
    refine lv_aload_n hx hb dX6_takeSign_8 rfl (lv_at hl 0 rfl) ?_
    obtain ⟨u_3, hu_3, hF⟩ := zbd hF
    refine zcall_v (va_runV (As := []) (rest := []) ⟨hx, hb, hml, hown, hts⟩ (qX6_advance l D E KL kc on rw rd ft tr la mo N _ _ hu_3) (cwV 0 hts (zgV k1_103 k1_105 kp0_2 k0_4 k1_106) rfl rfl rfl (by decide +kernel) ⟨Nat.le_of_ble_eq_true rfl, Nat.le_of_ble_eq_true rfl⟩) (zpv hE hS hA hK hP hD (va_recv hK hP (ci := 5) (q0 := 5) rfl (zg_rd _ _ _ _ _ _ _ _ _ _))) rfl rfl hl.1 rfl (lv_room (Nat.le_of_ble_eq_true rfl)) dX6_takeSign_9 ⟨Nat.zero_le _, Nat.zero_le _⟩) hD hS hA (fun H locs hP hD hS => ?_)
    refine lv_goto (tgt := 20) hx hb dX6_takeSign_12 (by decide) ?_
    obtain rfl := Option.some.inj hF
    exact hend _ _ _ _ hP hD hS dX6_takeSign_20
def fX6_takeNumber (N : Nat) (rd : zOS) (x1 : Int32) (x2 : Int32) : Option (Int32 × zOS) :=
  if (rd.1 4) = (2 : Int32) then
    (fX11_within N (rd.1 7) x1 x2).bind fun u_2 =>
    if u_2 = 0 then
      (fX6_stick N rd (2 : Int32)).bind fun u_5 =>
      some ((0 : Int32), u_5)
    else
      (fX6_advance N rd).bind fun u_4 =>
      some (rd.1 7, u_4)
  else
    (fX6_stick N rd (1 : Int32)).bind fun u_6 =>
    some ((0 : Int32), u_6)
set_option maxHeartbeats 4000000 in
set_option maxRecDepth 100000 in
theorem qX6_takeNumber (l : Launch) (D : va_G) (E : zE) (KL : List Nat) (kc : Nat → zKC) (on : zNS) (rw rd ft tr : zOS) (la : Nat → zLS) (mo : zMS) (N sz : Nat) (x1 : Int32) (x2 : Int32) (out : Int32 × zOS) (hF : fX6_takeNumber N rd x1 x2 = some out) : zCi l yX6_takeNumber zwX6_takeNumber ({ frames := 3, cells := 0, slots := 0, locals := 63 }) [.ref (E.1 5), .int x1, .int x2] D E sz (zW E KL kc on rw rd ft tr la mo) (zW E KL kc on rw out.2 ft tr la mo) out.1 0 0 := by
  refine zent_i (cc := cX6_takeNumber) (nL := 4) (by decide) rfl (Nat.le_of_ble_eq_true rfl) ?_
  intro p e s m args below meth c Q A hx hb hml hown hts hA hK hP hD hS hE ls hl hend
  have hown : s.vm.findClass RX6 = some m.cls := hown
  have hl : lv_has ls 4 [(0, .ref (E.1 5)), (1, .int x1), (2, .int x2)] := hl
  rw [fX6_takeNumber] at hF
  refine lv_aload_n hx hb dX6_takeNumber_0 rfl (lv_at hl 0 rfl) ?_
  refine va_get (D := D) (ci := 5) (v := .int (rd.1 4)) (C := RX6) (T := TX6) (N := 8) hx hb hts (zi iX6) hown hK hP 5 (zg_rd _ _ _ _ _ _ _ _ _ _) rfl 4 (by decide) (zh hts k0_62) (fun _ h9 => h9) rfl dX6_takeNumber_1 ?_
  refine lv_iconst (v := 2) hx hb dX6_takeNumber_4 (by decide) ?_
  refine lv_icmp_eq (tgt := 15) hx hb dX6_takeNumber_5 (by decide) (fun c_1 => ?_) (fun c_1 => ?_)
  · have hF := zit c_1 hF
    refine lv_aload_n hx hb dX6_takeNumber_15 rfl (lv_at hl 0 rfl) ?_
    refine va_get (D := D) (ci := 5) (v := .int (rd.1 7)) (C := RX6) (T := TX6) (N := 8) hx hb hts (zi iX6) hown hK hP 5 (zg_rd _ _ _ _ _ _ _ _ _ _) rfl 7 (by decide) (zh hts k0_65) (fun _ h9 => h9) rfl dX6_takeNumber_16 ?_
    refine lv_iload_n hx hb dX6_takeNumber_19 rfl (lv_at hl 1 rfl) ?_
    refine lv_iload_n hx hb dX6_takeNumber_20 rfl (lv_at hl 2 rfl) ?_
    obtain ⟨u_2, hu_2, hF⟩ := zbd hF
    refine zcall_i (va_runSN (As := [.int (rd.1 7), .int x1, .int x2]) (rest := []) ⟨hx, hb, hml, hown, hts⟩ (qX11_within l D E KL kc on rw rd ft tr la mo N _ (rd.1 7) x1 x2 _ hu_2) ⟨va_cnB 3 hts (zgC k1_12) rfl rfl rfl (hE.2.2.2.2.2.2.2.2.2.2.2 (RX6, 141, yX11_within) (List.mem_of_getElem? (i := 0) rfl)) (zh hts k0_1) (by decide +kernel) ⟨Nat.le_of_ble_eq_true rfl, Nat.le_of_ble_eq_true rfl⟩, hts (.static yX11_within) (by decide +kernel), trivial⟩ (zps hE hS hA hK hP hD) rfl rfl hl.1 rfl (lv_room (Nat.le_of_ble_eq_true rfl)) dX6_takeNumber_21 ⟨Nat.zero_le _, Nat.zero_le _⟩) hD hS hA (fun H locs hP hD hS => ?_)
    refine lv_if_ne (tgt := 34) hx hb dX6_takeNumber_24 (by decide) (fun c_3 => ?_) (fun c_3 => ?_)
    · have hF := zif c_3 hF
      refine lv_aload_n hx hb dX6_takeNumber_34 rfl (lv_at hl 0 rfl) ?_
      refine va_get (D := D) (ci := 5) (v := .int (rd.1 7)) (C := RX6) (T := TX6) (N := 8) hx hb hts (zi iX6) hown hK hP 5 (zg_rd _ _ _ _ _ _ _ _ _ _) rfl 7 (by decide) (zh hts k0_65) (fun _ h9 => h9) rfl dX6_takeNumber_35 ?_
      refine lv_istore_n (lv' := [(3, .int (rd.1 7)), (0, .ref (E.1 5)), (1, .int x1), (2, .int x2)]) hx hb dX6_takeNumber_38 rfl hl (by decide) rfl (fun ls hl => ?_)
      refine lv_aload_n hx hb dX6_takeNumber_39 rfl (lv_at hl 1 rfl) ?_
      obtain ⟨u_4, hu_4, hF⟩ := zbd hF
      refine zcall_v (va_runV (As := []) (rest := []) ⟨hx, hb, hml, hown, hts⟩ (qX6_advance l D E KL kc on rw rd ft tr la mo N _ _ hu_4) (cwV 0 hts (zgV k1_103 k1_105 kp0_2 k0_4 k1_106) rfl rfl rfl (by decide +kernel) ⟨Nat.le_of_ble_eq_true rfl, Nat.le_of_ble_eq_true rfl⟩) (zpv hE hS hA hK hP hD (va_recv hK hP (ci := 5) (q0 := 5) rfl (zg_rd _ _ _ _ _ _ _ _ _ _))) rfl rfl hl.1 rfl (lv_room (Nat.le_of_ble_eq_true rfl)) dX6_takeNumber_40 ⟨Nat.zero_le _, Nat.zero_le _⟩) hD hS hA (fun H locs hP hD hS => ?_)
      refine lv_iload_n hx hb dX6_takeNumber_43 rfl (lv_at hl 0 rfl) ?_
      obtain rfl := Option.some.inj hF
      exact hend _ _ _ _ hP hD hS dX6_takeNumber_44
    · have hF := zit c_3 hF
      refine lv_aload_n hx hb dX6_takeNumber_27 rfl (lv_at hl 0 rfl) ?_
      refine lv_iconst (v := 2) hx hb dX6_takeNumber_28 (by decide) ?_
      obtain ⟨u_5, hu_5, hF⟩ := zbd hF
      refine zcall_v (va_runV (As := [.int (2 : Int32)]) (rest := []) ⟨hx, hb, hml, hown, hts⟩ (qX6_stick l D E KL kc on rw rd ft tr la mo N _ (2 : Int32) _ hu_5) (cwV 1 hts (zgV k1_182 k1_184 kp0_8 k0_4 k1_185) rfl rfl rfl (by decide +kernel) ⟨Nat.le_of_ble_eq_true rfl, Nat.le_of_ble_eq_true rfl⟩) (zpv hE hS hA hK hP hD (va_recv hK hP (ci := 5) (q0 := 5) rfl (zg_rd _ _ _ _ _ _ _ _ _ _))) rfl rfl hl.1 rfl (lv_room (Nat.le_of_ble_eq_true rfl)) dX6_takeNumber_29 ⟨Nat.zero_le _, Nat.zero_le _⟩) hD hS hA (fun H locs hP hD hS => ?_)
      refine lv_iconst (v := 0) hx hb dX6_takeNumber_32 (by decide) ?_
      obtain rfl := Option.some.inj hF
      exact hend _ _ _ _ hP hD hS dX6_takeNumber_33
  · have hF := zif c_1 hF
    refine lv_aload_n hx hb dX6_takeNumber_8 rfl (lv_at hl 0 rfl) ?_
    refine lv_iconst (v := 1) hx hb dX6_takeNumber_9 (by decide) ?_
    obtain ⟨u_6, hu_6, hF⟩ := zbd hF
    refine zcall_v (va_runV (As := [.int (1 : Int32)]) (rest := []) ⟨hx, hb, hml, hown, hts⟩ (qX6_stick l D E KL kc on rw rd ft tr la mo N _ (1 : Int32) _ hu_6) (cwV 1 hts (zgV k1_182 k1_184 kp0_8 k0_4 k1_185) rfl rfl rfl (by decide +kernel) ⟨Nat.le_of_ble_eq_true rfl, Nat.le_of_ble_eq_true rfl⟩) (zpv hE hS hA hK hP hD (va_recv hK hP (ci := 5) (q0 := 5) rfl (zg_rd _ _ _ _ _ _ _ _ _ _))) rfl rfl hl.1 rfl (lv_room (Nat.le_of_ble_eq_true rfl)) dX6_takeNumber_10 ⟨Nat.zero_le _, Nat.zero_le _⟩) hD hS hA (fun H locs hP hD hS => ?_)
    refine lv_iconst (v := 0) hx hb dX6_takeNumber_13 (by decide) ?_
    obtain rfl := Option.some.inj hF
    exact hend _ _ _ _ hP hD hS dX6_takeNumber_14
def fX6_readLaw (N : Nat) (rd : zOS) (L : zLS) : Option (zOS × zLS) :=
  (fX6_takeWord N rd 0).bind fun u_1 =>
  (fX6_isWord N u_1 1).bind fun u_2 =>
  if u_2 = 0 then
    (fX6_takeWord N u_1 2).bind fun u_4 =>
    (fX6_takeNumber N u_4 (1 : Int32) (60 : Int32)).bind fun u_5 =>
    (fX6_takeSign N u_5.2).bind fun u_6 =>
    some (u_6, zLi (zLi L 0 (0 : Int32)) 1 u_5.1)
  else
    (fX6_takeWord N u_1 1).bind fun u_7 =>
    (fX6_takeNumber N u_7 (1 : Int32) (60 : Int32)).bind fun u_8 =>
    (fX6_takeSign N u_8.2).bind fun u_9 =>
    some (u_9, zLi (zLi L 0 (1 : Int32)) 1 u_8.1)
set_option maxHeartbeats 4000000 in
set_option maxRecDepth 100000 in
theorem qX6_readLaw (l : Launch) (D : va_G) (E : zE) (KL : List Nat) (kc : Nat → zKC) (on : zNS) (rw rd ft tr : zOS) (la : Nat → zLS) (mo : zMS) (j : Nat) (hj : j < 5) (L : zLS) (N sz : Nat)  (out : zOS × zLS) (hF : fX6_readLaw N rd L = some out) : zCv l yX6_readLaw zwX6_readLaw ({ frames := 6, cells := 0, slots := 0, locals := 128 }) [.ref (E.1 5), .ref (E.1 (13 + 11 * j))] D E sz (zW E KL kc on rw rd ft tr (va_up la j L) mo) (zW E KL kc on rw out.1 ft tr (va_up la j out.2) mo) 0 0 := by
  refine zent_v (cc := cX6_readLaw) (nL := 2) (by decide) rfl (Nat.le_of_ble_eq_true rfl) ?_
  intro p e s m args below meth c Q A hx hb hml hown hts hA hK hP hD hS hE ls hl hend
  have hown : s.vm.findClass RX6 = some m.cls := hown
  have hl : lv_has ls 2 [(0, .ref (E.1 5)), (1, .ref (E.1 (13 + 11 * j)))] := hl
  rw [fX6_readLaw] at hF
  refine lv_aload_n hx hb dX6_readLaw_0 rfl (lv_at hl 0 rfl) ?_
  refine va_ldcS (own := RX6) (tx := zst.getD 0 "") (q := E.2.2.2.2.2.1 0) hx hb hown (hE.2.2.2.1 0 (by decide)) dX6_readLaw_1 ?_
  obtain ⟨u_1, hu_1, hF⟩ := zbd hF
  refine zcall_v (va_runV (As := [.ref (E.2.2.2.2.2.1 0)]) (rest := []) ⟨hx, hb, hml, hown, hts⟩ (qX6_takeWord l D E KL kc on rw rd ft tr (va_up la j L) mo N _ 0 _ hu_1) (cwV 1 hts (zgV k1_126 k1_128 kp0_6 k0_4 k1_129) rfl rfl rfl (by decide +kernel) ⟨Nat.le_of_ble_eq_true rfl, Nat.le_of_ble_eq_true rfl⟩) (zpv hE hS hA hK hP hD (va_recv hK hP (ci := 5) (q0 := 5) rfl (zg_rd _ _ _ _ _ _ _ _ _ _))) rfl rfl hl.1 rfl (lv_room (Nat.le_of_ble_eq_true rfl)) dX6_readLaw_3 ⟨Nat.zero_le _, Nat.zero_le _⟩) hD hS hA (fun H locs hP hD hS => ?_)
  refine lv_aload_n hx hb dX6_readLaw_6 rfl (lv_at hl 0 rfl) ?_
  refine va_ldcS (own := RX6) (tx := zst.getD 1 "") (q := E.2.2.2.2.2.1 1) hx hb hown (hE.2.2.2.1 1 (by decide)) dX6_readLaw_7 ?_
  obtain ⟨u_2, hu_2, hF⟩ := zbd hF
  refine zcall_i (va_runV (As := [.ref (E.2.2.2.2.2.1 1)]) (rest := []) ⟨hx, hb, hml, hown, hts⟩ (qX6_isWord l D E KL kc on rw u_1 ft tr (va_up la j L) mo N _ 1 _ hu_2) (cwV 1 hts (zgV k1_130 k1_132 kp0_7 k0_4 k1_133) rfl rfl rfl (by decide +kernel) ⟨Nat.le_of_ble_eq_true rfl, Nat.le_of_ble_eq_true rfl⟩) (zpv hE hS hA hK hP hD (va_recv hK hP (ci := 5) (q0 := 5) rfl (zg_rd _ _ _ _ _ _ _ _ _ _))) rfl rfl hl.1 rfl (lv_room (Nat.le_of_ble_eq_true rfl)) dX6_readLaw_9 ⟨Nat.zero_le _, Nat.zero_le _⟩) hD hS hA (fun H locs hP hD hS => ?_)
  refine lv_if_eq (tgt := 29) hx hb dX6_readLaw_12 (by decide) (fun c_3 => ?_) (fun c_3 => ?_)
  · have hF := zit c_3 hF
    refine lv_aload_n hx hb dX6_readLaw_29 rfl (lv_at hl 0 rfl) ?_
    refine va_ldcS (own := RX6) (tx := zst.getD 2 "") (q := E.2.2.2.2.2.1 2) hx hb hown (hE.2.2.2.1 2 (by decide)) dX6_readLaw_30 ?_
    obtain ⟨u_4, hu_4, hF⟩ := zbd hF
    refine zcall_v (va_runV (As := [.ref (E.2.2.2.2.2.1 2)]) (rest := []) ⟨hx, hb, hml, hown, hts⟩ (qX6_takeWord l D E KL kc on rw u_1 ft tr (va_up la j L) mo N _ 2 _ hu_4) (cwV 1 hts (zgV k1_126 k1_128 kp0_6 k0_4 k1_129) rfl rfl rfl (by decide +kernel) ⟨Nat.le_of_ble_eq_true rfl, Nat.le_of_ble_eq_true rfl⟩) (zpv hE hS hA hK hP hD (va_recv hK hP (ci := 5) (q0 := 5) rfl (zg_rd _ _ _ _ _ _ _ _ _ _))) rfl rfl hl.1 rfl (lv_room (Nat.le_of_ble_eq_true rfl)) dX6_readLaw_32 ⟨Nat.zero_le _, Nat.zero_le _⟩) hD hS hA (fun H locs hP hD hS => ?_)
    refine lv_aload_n hx hb dX6_readLaw_35 rfl (lv_at hl 1 rfl) ?_
    refine lv_iconst (v := 0) hx hb dX6_readLaw_36 (by decide) ?_
    refine va_put (D := D) (ci := 3) (v := .int (0 : Int32)) (ty := .int) (C := RX4) (T := TX4) (N := 19) hx hb hts (zi iX4) tyX4 tyX4_ok nmX4 hown hK hP hD hS (13 + 11 * j) (zg_L _ _ _ _ _ _ _ _ _ _ hj _) rfl 0 (by decide) (zh hts k0_98) (fun _ h9 => h9) rfl (by decide +kernel) rfl rfl (Nat.le_of_ble_eq_true rfl) dX6_readLaw_37 (fun H locs hP hD hS => ?_)
    rw [zs_L_0 _ _ _ _ _ _ _ _ _ _ hj] at hP hD
    refine lv_aload_n hx hb dX6_readLaw_40 rfl (lv_at hl 1 rfl) ?_
    refine lv_aload_n hx hb dX6_readLaw_41 rfl (lv_at hl 0 rfl) ?_
    refine lv_iconst (v := 1) hx hb dX6_readLaw_42 (by decide) ?_
    refine lv_bipush (v := 60) hx hb dX6_readLaw_43 (by decide) ?_
    obtain ⟨u_5, hu_5, hF⟩ := zbd hF
    refine zcall_i (va_runV (As := [.int (1 : Int32), .int (60 : Int32)]) (rest := [.ref (E.1 (13 + 11 * j))]) ⟨hx, hb, hml, hown, hts⟩ (qX6_takeNumber l D E KL kc on rw u_4 ft tr (va_up la j (zLi L 0 (0 : Int32))) mo N _ (1 : Int32) (60 : Int32) _ hu_5) (cwV 2 hts (zgV k1_188 k1_190 kp0_9 k0_4 k1_191) rfl rfl rfl (by decide +kernel) ⟨Nat.le_of_ble_eq_true rfl, Nat.le_of_ble_eq_true rfl⟩) (zpv hE hS hA hK hP hD (va_recv hK hP (ci := 5) (q0 := 5) rfl (zg_rd _ _ _ _ _ _ _ _ _ _))) rfl rfl hl.1 rfl (lv_room (Nat.le_of_ble_eq_true rfl)) dX6_readLaw_45 ⟨Nat.zero_le _, Nat.zero_le _⟩) hD hS hA (fun H locs hP hD hS => ?_)
    refine va_put (D := D) (ci := 3) (v := .int u_5.1) (ty := .int) (C := RX4) (T := TX4) (N := 19) hx hb hts (zi iX4) tyX4 tyX4_ok nmX4 hown hK hP hD hS (13 + 11 * j) (zg_L _ _ _ _ _ _ _ _ _ _ hj _) rfl 1 (by decide) (zh hts k0_103) (fun _ h9 => h9) rfl (by decide +kernel) rfl rfl (Nat.le_of_ble_eq_true rfl) dX6_readLaw_48 (fun H locs hP hD hS => ?_)
    rw [zs_L_1 _ _ _ _ _ _ _ _ _ _ hj] at hP hD
    refine lv_aload_n hx hb dX6_readLaw_51 rfl (lv_at hl 0 rfl) ?_
    obtain ⟨u_6, hu_6, hF⟩ := zbd hF
    refine zcall_v (va_runV (As := []) (rest := []) ⟨hx, hb, hml, hown, hts⟩ (qX6_takeSign l D E KL kc on rw u_5.2 ft tr (va_up la j (zLi (zLi L 0 (0 : Int32)) 1 u_5.1)) mo N _ _ hu_6) (cwV 0 hts (zgV k1_193 k1_195 kp0_10 k0_4 k1_196) rfl rfl rfl (by decide +kernel) ⟨Nat.le_of_ble_eq_true rfl, Nat.le_of_ble_eq_true rfl⟩) (zpv hE hS hA hK hP hD (va_recv hK hP (ci := 5) (q0 := 5) rfl (zg_rd _ _ _ _ _ _ _ _ _ _))) rfl rfl hl.1 rfl (lv_room (Nat.le_of_ble_eq_true rfl)) dX6_readLaw_52 ⟨Nat.zero_le _, Nat.zero_le _⟩) hD hS hA (fun H locs hP hD hS => ?_)
    obtain rfl := Option.some.inj hF
    exact hend _ _ _ _ hP hD hS dX6_readLaw_55
  · have hF := zif c_3 hF
    refine lv_aload_n hx hb dX6_readLaw_15 rfl (lv_at hl 0 rfl) ?_
    refine va_ldcS (own := RX6) (tx := zst.getD 1 "") (q := E.2.2.2.2.2.1 1) hx hb hown (hE.2.2.2.1 1 (by decide)) dX6_readLaw_16 ?_
    obtain ⟨u_7, hu_7, hF⟩ := zbd hF
    refine zcall_v (va_runV (As := [.ref (E.2.2.2.2.2.1 1)]) (rest := []) ⟨hx, hb, hml, hown, hts⟩ (qX6_takeWord l D E KL kc on rw u_1 ft tr (va_up la j L) mo N _ 1 _ hu_7) (cwV 1 hts (zgV k1_126 k1_128 kp0_6 k0_4 k1_129) rfl rfl rfl (by decide +kernel) ⟨Nat.le_of_ble_eq_true rfl, Nat.le_of_ble_eq_true rfl⟩) (zpv hE hS hA hK hP hD (va_recv hK hP (ci := 5) (q0 := 5) rfl (zg_rd _ _ _ _ _ _ _ _ _ _))) rfl rfl hl.1 rfl (lv_room (Nat.le_of_ble_eq_true rfl)) dX6_readLaw_18 ⟨Nat.zero_le _, Nat.zero_le _⟩) hD hS hA (fun H locs hP hD hS => ?_)
    refine lv_aload_n hx hb dX6_readLaw_21 rfl (lv_at hl 1 rfl) ?_
    refine lv_iconst (v := 1) hx hb dX6_readLaw_22 (by decide) ?_
    refine va_put (D := D) (ci := 3) (v := .int (1 : Int32)) (ty := .int) (C := RX4) (T := TX4) (N := 19) hx hb hts (zi iX4) tyX4 tyX4_ok nmX4 hown hK hP hD hS (13 + 11 * j) (zg_L _ _ _ _ _ _ _ _ _ _ hj _) rfl 0 (by decide) (zh hts k0_98) (fun _ h9 => h9) rfl (by decide +kernel) rfl rfl (Nat.le_of_ble_eq_true rfl) dX6_readLaw_23 (fun H locs hP hD hS => ?_)
    rw [zs_L_0 _ _ _ _ _ _ _ _ _ _ hj] at hP hD
    refine lv_goto (tgt := 40) hx hb dX6_readLaw_26 (by decide) ?_
    refine lv_aload_n hx hb dX6_readLaw_40 rfl (lv_at hl 1 rfl) ?_
    refine lv_aload_n hx hb dX6_readLaw_41 rfl (lv_at hl 0 rfl) ?_
    refine lv_iconst (v := 1) hx hb dX6_readLaw_42 (by decide) ?_
    refine lv_bipush (v := 60) hx hb dX6_readLaw_43 (by decide) ?_
    obtain ⟨u_8, hu_8, hF⟩ := zbd hF
    refine zcall_i (va_runV (As := [.int (1 : Int32), .int (60 : Int32)]) (rest := [.ref (E.1 (13 + 11 * j))]) ⟨hx, hb, hml, hown, hts⟩ (qX6_takeNumber l D E KL kc on rw u_7 ft tr (va_up la j (zLi L 0 (1 : Int32))) mo N _ (1 : Int32) (60 : Int32) _ hu_8) (cwV 2 hts (zgV k1_188 k1_190 kp0_9 k0_4 k1_191) rfl rfl rfl (by decide +kernel) ⟨Nat.le_of_ble_eq_true rfl, Nat.le_of_ble_eq_true rfl⟩) (zpv hE hS hA hK hP hD (va_recv hK hP (ci := 5) (q0 := 5) rfl (zg_rd _ _ _ _ _ _ _ _ _ _))) rfl rfl hl.1 rfl (lv_room (Nat.le_of_ble_eq_true rfl)) dX6_readLaw_45 ⟨Nat.zero_le _, Nat.zero_le _⟩) hD hS hA (fun H locs hP hD hS => ?_)
    refine va_put (D := D) (ci := 3) (v := .int u_8.1) (ty := .int) (C := RX4) (T := TX4) (N := 19) hx hb hts (zi iX4) tyX4 tyX4_ok nmX4 hown hK hP hD hS (13 + 11 * j) (zg_L _ _ _ _ _ _ _ _ _ _ hj _) rfl 1 (by decide) (zh hts k0_103) (fun _ h9 => h9) rfl (by decide +kernel) rfl rfl (Nat.le_of_ble_eq_true rfl) dX6_readLaw_48 (fun H locs hP hD hS => ?_)
    rw [zs_L_1 _ _ _ _ _ _ _ _ _ _ hj] at hP hD
    refine lv_aload_n hx hb dX6_readLaw_51 rfl (lv_at hl 0 rfl) ?_
    obtain ⟨u_9, hu_9, hF⟩ := zbd hF
    refine zcall_v (va_runV (As := []) (rest := []) ⟨hx, hb, hml, hown, hts⟩ (qX6_takeSign l D E KL kc on rw u_8.2 ft tr (va_up la j (zLi (zLi L 0 (1 : Int32)) 1 u_8.1)) mo N _ _ hu_9) (cwV 0 hts (zgV k1_193 k1_195 kp0_10 k0_4 k1_196) rfl rfl rfl (by decide +kernel) ⟨Nat.le_of_ble_eq_true rfl, Nat.le_of_ble_eq_true rfl⟩) (zpv hE hS hA hK hP hD (va_recv hK hP (ci := 5) (q0 := 5) rfl (zg_rd _ _ _ _ _ _ _ _ _ _))) rfl rfl hl.1 rfl (lv_room (Nat.le_of_ble_eq_true rfl)) dX6_readLaw_52 ⟨Nat.zero_le _, Nat.zero_le _⟩) hD hS hA (fun H locs hP hD hS => ?_)
    obtain rfl := Option.some.inj hF
    exact hend _ _ _ _ hP hD hS dX6_readLaw_55
def fX6_readChest (N : Nat) (rd : zOS) (L : zLS) : Option (zOS × zLS) :=
  (fX6_takeWord N rd 4).bind fun u_1 =>
  (fX6_takeNumber N u_1 (0 : Int32) (500 : Int32)).bind fun u_2 =>
  (fX6_takeNumber N u_2.2 (0 : Int32) (20 : Int32)).bind fun u_3 =>
  (fX6_takeNumber N u_3.2 (0 : Int32) (999 : Int32)).bind fun u_4 =>
  (fX6_takeSign N u_4.2).bind fun u_5 =>
  some (u_5, zLi (zLi (zLi L 3 u_2.1) 4 u_3.1) 5 u_4.1)
set_option maxHeartbeats 4000000 in
set_option maxRecDepth 100000 in
theorem qX6_readChest (l : Launch) (D : va_G) (E : zE) (KL : List Nat) (kc : Nat → zKC) (on : zNS) (rw rd ft tr : zOS) (la : Nat → zLS) (mo : zMS) (j : Nat) (hj : j < 5) (L : zLS) (N sz : Nat)  (out : zOS × zLS) (hF : fX6_readChest N rd L = some out) : zCv l yX6_readChest zwX6_readChest ({ frames := 6, cells := 0, slots := 0, locals := 128 }) [.ref (E.1 5), .ref (E.1 (13 + 11 * j))] D E sz (zW E KL kc on rw rd ft tr (va_up la j L) mo) (zW E KL kc on rw out.1 ft tr (va_up la j out.2) mo) 0 0 := by
  refine zent_v (cc := cX6_readChest) (nL := 2) (by decide) rfl (Nat.le_of_ble_eq_true rfl) ?_
  intro p e s m args below meth c Q A hx hb hml hown hts hA hK hP hD hS hE ls hl hend
  have hown : s.vm.findClass RX6 = some m.cls := hown
  have hl : lv_has ls 2 [(0, .ref (E.1 5)), (1, .ref (E.1 (13 + 11 * j)))] := hl
  rw [fX6_readChest] at hF
  refine lv_aload_n hx hb dX6_readChest_0 rfl (lv_at hl 0 rfl) ?_
  refine va_ldcS (own := RX6) (tx := zst.getD 4 "") (q := E.2.2.2.2.2.1 4) hx hb hown (hE.2.2.2.1 4 (by decide)) dX6_readChest_1 ?_
  obtain ⟨u_1, hu_1, hF⟩ := zbd hF
  refine zcall_v (va_runV (As := [.ref (E.2.2.2.2.2.1 4)]) (rest := []) ⟨hx, hb, hml, hown, hts⟩ (qX6_takeWord l D E KL kc on rw rd ft tr (va_up la j L) mo N _ 4 _ hu_1) (cwV 1 hts (zgV k1_126 k1_128 kp0_6 k0_4 k1_129) rfl rfl rfl (by decide +kernel) ⟨Nat.le_of_ble_eq_true rfl, Nat.le_of_ble_eq_true rfl⟩) (zpv hE hS hA hK hP hD (va_recv hK hP (ci := 5) (q0 := 5) rfl (zg_rd _ _ _ _ _ _ _ _ _ _))) rfl rfl hl.1 rfl (lv_room (Nat.le_of_ble_eq_true rfl)) dX6_readChest_3 ⟨Nat.zero_le _, Nat.zero_le _⟩) hD hS hA (fun H locs hP hD hS => ?_)
  refine lv_aload_n hx hb dX6_readChest_6 rfl (lv_at hl 1 rfl) ?_
  refine lv_aload_n hx hb dX6_readChest_7 rfl (lv_at hl 0 rfl) ?_
  refine lv_iconst (v := 0) hx hb dX6_readChest_8 (by decide) ?_
  refine lv_sipush (v := 500) hx hb dX6_readChest_9 (by decide) ?_
  obtain ⟨u_2, hu_2, hF⟩ := zbd hF
  refine zcall_i (va_runV (As := [.int (0 : Int32), .int (500 : Int32)]) (rest := [.ref (E.1 (13 + 11 * j))]) ⟨hx, hb, hml, hown, hts⟩ (qX6_takeNumber l D E KL kc on rw u_1 ft tr (va_up la j L) mo N _ (0 : Int32) (500 : Int32) _ hu_2) (cwV 2 hts (zgV k1_188 k1_190 kp0_9 k0_4 k1_191) rfl rfl rfl (by decide +kernel) ⟨Nat.le_of_ble_eq_true rfl, Nat.le_of_ble_eq_true rfl⟩) (zpv hE hS hA hK hP hD (va_recv hK hP (ci := 5) (q0 := 5) rfl (zg_rd _ _ _ _ _ _ _ _ _ _))) rfl rfl hl.1 rfl (lv_room (Nat.le_of_ble_eq_true rfl)) dX6_readChest_12 ⟨Nat.zero_le _, Nat.zero_le _⟩) hD hS hA (fun H locs hP hD hS => ?_)
  refine va_put (D := D) (ci := 3) (v := .int u_2.1) (ty := .int) (C := RX4) (T := TX4) (N := 19) hx hb hts (zi iX4) tyX4 tyX4_ok nmX4 hown hK hP hD hS (13 + 11 * j) (zg_L _ _ _ _ _ _ _ _ _ _ hj _) rfl 3 (by decide) (zh hts k0_109) (fun _ h9 => h9) rfl (by decide +kernel) rfl rfl (Nat.le_of_ble_eq_true rfl) dX6_readChest_15 (fun H locs hP hD hS => ?_)
  rw [zs_L_3 _ _ _ _ _ _ _ _ _ _ hj] at hP hD
  refine lv_aload_n hx hb dX6_readChest_18 rfl (lv_at hl 1 rfl) ?_
  refine lv_aload_n hx hb dX6_readChest_19 rfl (lv_at hl 0 rfl) ?_
  refine lv_iconst (v := 0) hx hb dX6_readChest_20 (by decide) ?_
  refine lv_bipush (v := 20) hx hb dX6_readChest_21 (by decide) ?_
  obtain ⟨u_3, hu_3, hF⟩ := zbd hF
  refine zcall_i (va_runV (As := [.int (0 : Int32), .int (20 : Int32)]) (rest := [.ref (E.1 (13 + 11 * j))]) ⟨hx, hb, hml, hown, hts⟩ (qX6_takeNumber l D E KL kc on rw u_2.2 ft tr (va_up la j (zLi L 3 u_2.1)) mo N _ (0 : Int32) (20 : Int32) _ hu_3) (cwV 2 hts (zgV k1_188 k1_190 kp0_9 k0_4 k1_191) rfl rfl rfl (by decide +kernel) ⟨Nat.le_of_ble_eq_true rfl, Nat.le_of_ble_eq_true rfl⟩) (zpv hE hS hA hK hP hD (va_recv hK hP (ci := 5) (q0 := 5) rfl (zg_rd _ _ _ _ _ _ _ _ _ _))) rfl rfl hl.1 rfl (lv_room (Nat.le_of_ble_eq_true rfl)) dX6_readChest_23 ⟨Nat.zero_le _, Nat.zero_le _⟩) hD hS hA (fun H locs hP hD hS => ?_)
  refine va_put (D := D) (ci := 3) (v := .int u_3.1) (ty := .int) (C := RX4) (T := TX4) (N := 19) hx hb hts (zi iX4) tyX4 tyX4_ok nmX4 hown hK hP hD hS (13 + 11 * j) (zg_L _ _ _ _ _ _ _ _ _ _ hj _) rfl 4 (by decide) (zh hts k0_111) (fun _ h9 => h9) rfl (by decide +kernel) rfl rfl (Nat.le_of_ble_eq_true rfl) dX6_readChest_26 (fun H locs hP hD hS => ?_)
  rw [zs_L_4 _ _ _ _ _ _ _ _ _ _ hj] at hP hD
  refine lv_aload_n hx hb dX6_readChest_29 rfl (lv_at hl 1 rfl) ?_
  refine lv_aload_n hx hb dX6_readChest_30 rfl (lv_at hl 0 rfl) ?_
  refine lv_iconst (v := 0) hx hb dX6_readChest_31 (by decide) ?_
  refine lv_sipush (v := 999) hx hb dX6_readChest_32 (by decide) ?_
  obtain ⟨u_4, hu_4, hF⟩ := zbd hF
  refine zcall_i (va_runV (As := [.int (0 : Int32), .int (999 : Int32)]) (rest := [.ref (E.1 (13 + 11 * j))]) ⟨hx, hb, hml, hown, hts⟩ (qX6_takeNumber l D E KL kc on rw u_3.2 ft tr (va_up la j (zLi (zLi L 3 u_2.1) 4 u_3.1)) mo N _ (0 : Int32) (999 : Int32) _ hu_4) (cwV 2 hts (zgV k1_188 k1_190 kp0_9 k0_4 k1_191) rfl rfl rfl (by decide +kernel) ⟨Nat.le_of_ble_eq_true rfl, Nat.le_of_ble_eq_true rfl⟩) (zpv hE hS hA hK hP hD (va_recv hK hP (ci := 5) (q0 := 5) rfl (zg_rd _ _ _ _ _ _ _ _ _ _))) rfl rfl hl.1 rfl (lv_room (Nat.le_of_ble_eq_true rfl)) dX6_readChest_35 ⟨Nat.zero_le _, Nat.zero_le _⟩) hD hS hA (fun H locs hP hD hS => ?_)
  refine va_put (D := D) (ci := 3) (v := .int u_4.1) (ty := .int) (C := RX4) (T := TX4) (N := 19) hx hb hts (zi iX4) tyX4 tyX4_ok nmX4 hown hK hP hD hS (13 + 11 * j) (zg_L _ _ _ _ _ _ _ _ _ _ hj _) rfl 5 (by decide) (zh hts k0_114) (fun _ h9 => h9) rfl (by decide +kernel) rfl rfl (Nat.le_of_ble_eq_true rfl) dX6_readChest_38 (fun H locs hP hD hS => ?_)
  rw [zs_L_5 _ _ _ _ _ _ _ _ _ _ hj] at hP hD
  refine lv_aload_n hx hb dX6_readChest_41 rfl (lv_at hl 0 rfl) ?_
  obtain ⟨u_5, hu_5, hF⟩ := zbd hF
  refine zcall_v (va_runV (As := []) (rest := []) ⟨hx, hb, hml, hown, hts⟩ (qX6_takeSign l D E KL kc on rw u_4.2 ft tr (va_up la j (zLi (zLi (zLi L 3 u_2.1) 4 u_3.1) 5 u_4.1)) mo N _ _ hu_5) (cwV 0 hts (zgV k1_193 k1_195 kp0_10 k0_4 k1_196) rfl rfl rfl (by decide +kernel) ⟨Nat.le_of_ble_eq_true rfl, Nat.le_of_ble_eq_true rfl⟩) (zpv hE hS hA hK hP hD (va_recv hK hP (ci := 5) (q0 := 5) rfl (zg_rd _ _ _ _ _ _ _ _ _ _))) rfl rfl hl.1 rfl (lv_room (Nat.le_of_ble_eq_true rfl)) dX6_readChest_42 ⟨Nat.zero_le _, Nat.zero_le _⟩) hD hS hA (fun H locs hP hD hS => ?_)
  obtain rfl := Option.some.inj hF
  exact hend _ _ _ _ hP hD hS dX6_readChest_45
def fX6_takeWordOf (N : Nat) (rd : zOS) (x1 : Nat) (x2 : Int32) (x3 : Int32) : Option zOS :=
  (fX6_isWord N rd x1).bind fun u_1 =>
  if u_1 = 0 then
    (fX6_takeWord N rd x1).bind fun u_3 =>
    some u_3
  else
    if x2 < x3 then
      (fX6_takeWord N rd x1).bind fun u_5 =>
      some u_5
    else
      (fX6_stick N rd (3 : Int32)).bind fun u_6 =>
      (fX6_takeWord N u_6 x1).bind fun u_7 =>
      some u_7
set_option maxHeartbeats 4000000 in
set_option maxRecDepth 100000 in
theorem qX6_takeWordOf (l : Launch) (D : va_G) (E : zE) (KL : List Nat) (kc : Nat → zKC) (on : zNS) (rw rd ft tr : zOS) (la : Nat → zLS) (mo : zMS) (N sz : Nat) (x1 : Nat) (x2 : Int32) (x3 : Int32) (out : zOS) (hF : fX6_takeWordOf N rd x1 x2 x3 = some out) : zCv l yX6_takeWordOf zwX6_takeWordOf ({ frames := 6, cells := 0, slots := 0, locals := 128 }) [.ref (E.1 5), .ref (E.2.2.2.2.2.1 x1), .int x2, .int x3] D E sz (zW E KL kc on rw rd ft tr la mo) (zW E KL kc on rw out ft tr la mo) 0 0 := by
  refine zent_v (cc := cX6_takeWordOf) (nL := 4) (by decide) rfl (Nat.le_of_ble_eq_true rfl) ?_
  intro p e s m args below meth c Q A hx hb hml hown hts hA hK hP hD hS hE ls hl hend
  have hown : s.vm.findClass RX6 = some m.cls := hown
  have hl : lv_has ls 4 [(0, .ref (E.1 5)), (1, .ref (E.2.2.2.2.2.1 x1)), (2, .int x2), (3, .int x3)] := hl
  rw [fX6_takeWordOf] at hF
  refine lv_aload_n hx hb dX6_takeWordOf_0 rfl (lv_at hl 0 rfl) ?_
  refine lv_aload_n hx hb dX6_takeWordOf_1 rfl (lv_at hl 1 rfl) ?_
  obtain ⟨u_1, hu_1, hF⟩ := zbd hF
  refine zcall_i (va_runV (As := [.ref (E.2.2.2.2.2.1 x1)]) (rest := []) ⟨hx, hb, hml, hown, hts⟩ (qX6_isWord l D E KL kc on rw rd ft tr la mo N _ x1 _ hu_1) (cwV 1 hts (zgV k1_130 k1_132 kp0_7 k0_4 k1_133) rfl rfl rfl (by decide +kernel) ⟨Nat.le_of_ble_eq_true rfl, Nat.le_of_ble_eq_true rfl⟩) (zpv hE hS hA hK hP hD (va_recv hK hP (ci := 5) (q0 := 5) rfl (zg_rd _ _ _ _ _ _ _ _ _ _))) rfl rfl hl.1 rfl (lv_room (Nat.le_of_ble_eq_true rfl)) dX6_takeWordOf_2 ⟨Nat.zero_le _, Nat.zero_le _⟩) hD hS hA (fun H locs hP hD hS => ?_)
  refine lv_if_eq (tgt := 18) hx hb dX6_takeWordOf_5 (by decide) (fun c_2 => ?_) (fun c_2 => ?_)
  · have hF := zit c_2 hF
    refine lv_aload_n hx hb dX6_takeWordOf_18 rfl (lv_at hl 0 rfl) ?_
    refine lv_aload_n hx hb dX6_takeWordOf_19 rfl (lv_at hl 1 rfl) ?_
    obtain ⟨u_3, hu_3, hF⟩ := zbd hF
    refine zcall_v (va_runV (As := [.ref (E.2.2.2.2.2.1 x1)]) (rest := []) ⟨hx, hb, hml, hown, hts⟩ (qX6_takeWord l D E KL kc on rw rd ft tr la mo N _ x1 _ hu_3) (cwV 1 hts (zgV k1_126 k1_128 kp0_6 k0_4 k1_129) rfl rfl rfl (by decide +kernel) ⟨Nat.le_of_ble_eq_true rfl, Nat.le_of_ble_eq_true rfl⟩) (zpv hE hS hA hK hP hD (va_recv hK hP (ci := 5) (q0 := 5) rfl (zg_rd _ _ _ _ _ _ _ _ _ _))) rfl rfl hl.1 rfl (lv_room (Nat.le_of_ble_eq_true rfl)) dX6_takeWordOf_20 ⟨Nat.zero_le _, Nat.zero_le _⟩) hD hS hA (fun H locs hP hD hS => ?_)
    obtain rfl := Option.some.inj hF
    exact hend _ _ _ _ hP hD hS dX6_takeWordOf_23
  · have hF := zif c_2 hF
    refine lv_iload_n hx hb dX6_takeWordOf_8 rfl (lv_at hl 2 rfl) ?_
    refine lv_iload_n hx hb dX6_takeWordOf_9 rfl (lv_at hl 3 rfl) ?_
    refine lv_icmp_lt (tgt := 18) hx hb dX6_takeWordOf_10 (by decide) (fun c_4 => ?_) (fun c_4 => ?_)
    · have hF := zit c_4 hF
      refine lv_aload_n hx hb dX6_takeWordOf_18 rfl (lv_at hl 0 rfl) ?_
      refine lv_aload_n hx hb dX6_takeWordOf_19 rfl (lv_at hl 1 rfl) ?_
      obtain ⟨u_5, hu_5, hF⟩ := zbd hF
      refine zcall_v (va_runV (As := [.ref (E.2.2.2.2.2.1 x1)]) (rest := []) ⟨hx, hb, hml, hown, hts⟩ (qX6_takeWord l D E KL kc on rw rd ft tr la mo N _ x1 _ hu_5) (cwV 1 hts (zgV k1_126 k1_128 kp0_6 k0_4 k1_129) rfl rfl rfl (by decide +kernel) ⟨Nat.le_of_ble_eq_true rfl, Nat.le_of_ble_eq_true rfl⟩) (zpv hE hS hA hK hP hD (va_recv hK hP (ci := 5) (q0 := 5) rfl (zg_rd _ _ _ _ _ _ _ _ _ _))) rfl rfl hl.1 rfl (lv_room (Nat.le_of_ble_eq_true rfl)) dX6_takeWordOf_20 ⟨Nat.zero_le _, Nat.zero_le _⟩) hD hS hA (fun H locs hP hD hS => ?_)
      obtain rfl := Option.some.inj hF
      exact hend _ _ _ _ hP hD hS dX6_takeWordOf_23
    · have hF := zif c_4 hF
      refine lv_aload_n hx hb dX6_takeWordOf_13 rfl (lv_at hl 0 rfl) ?_
      refine lv_iconst (v := 3) hx hb dX6_takeWordOf_14 (by decide) ?_
      obtain ⟨u_6, hu_6, hF⟩ := zbd hF
      refine zcall_v (va_runV (As := [.int (3 : Int32)]) (rest := []) ⟨hx, hb, hml, hown, hts⟩ (qX6_stick l D E KL kc on rw rd ft tr la mo N _ (3 : Int32) _ hu_6) (cwV 1 hts (zgV k1_182 k1_184 kp0_8 k0_4 k1_185) rfl rfl rfl (by decide +kernel) ⟨Nat.le_of_ble_eq_true rfl, Nat.le_of_ble_eq_true rfl⟩) (zpv hE hS hA hK hP hD (va_recv hK hP (ci := 5) (q0 := 5) rfl (zg_rd _ _ _ _ _ _ _ _ _ _))) rfl rfl hl.1 rfl (lv_room (Nat.le_of_ble_eq_true rfl)) dX6_takeWordOf_15 ⟨Nat.zero_le _, Nat.zero_le _⟩) hD hS hA (fun H locs hP hD hS => ?_)
      refine lv_aload_n hx hb dX6_takeWordOf_18 rfl (lv_at hl 0 rfl) ?_
      refine lv_aload_n hx hb dX6_takeWordOf_19 rfl (lv_at hl 1 rfl) ?_
      obtain ⟨u_7, hu_7, hF⟩ := zbd hF
      refine zcall_v (va_runV (As := [.ref (E.2.2.2.2.2.1 x1)]) (rest := []) ⟨hx, hb, hml, hown, hts⟩ (qX6_takeWord l D E KL kc on rw u_6 ft tr la mo N _ x1 _ hu_7) (cwV 1 hts (zgV k1_126 k1_128 kp0_6 k0_4 k1_129) rfl rfl rfl (by decide +kernel) ⟨Nat.le_of_ble_eq_true rfl, Nat.le_of_ble_eq_true rfl⟩) (zpv hE hS hA hK hP hD (va_recv hK hP (ci := 5) (q0 := 5) rfl (zg_rd _ _ _ _ _ _ _ _ _ _))) rfl rfl hl.1 rfl (lv_room (Nat.le_of_ble_eq_true rfl)) dX6_takeWordOf_20 ⟨Nat.zero_le _, Nat.zero_le _⟩) hD hS hA (fun H locs hP hD hS => ?_)
      obtain rfl := Option.some.inj hF
      exact hend _ _ _ _ hP hD hS dX6_takeWordOf_23
def fX6_readPoints_l1 (N : Nat) : Nat → Int32 → Int32 → zOS → zLS → Option (zOS × zLS)
  | 0, _, _, _, _ => none
  | n + 1, x2_1, x3_2, rd_3, L_4 =>
    if x3_2 = 0 then
      (fX6_takeWordOf N rd_3 3 x3_2 (8 : Int32)).bind fun u_6 =>
      (fX6_takeNumber N u_6 x2_1 (60 : Int32)).bind fun u_7 =>
      (fX6_takeNumber N u_7.2 (0 : Int32) (9999 : Int32)).bind fun u_8 =>
      (fX6_takeSign N u_8.2).bind fun u_9 =>
      (fX4_addPoint N L_4 u_7.1 u_8.1).bind fun u_11 =>
      fX6_readPoints_l1 N n (u_7.1 + (1 : Int32)) (x3_2 + (1 : Int32)) u_9 u_11
    else
      if (8 : Int32) < x3_2 then
        some (rd_3, L_4)
      else
        (fX6_isWord N rd_3 3).bind fun u_13 =>
        if u_13 = 0 then
          some (rd_3, L_4)
        else
          (fX6_takeWordOf N rd_3 3 x3_2 (8 : Int32)).bind fun u_15 =>
          (fX6_takeNumber N u_15 x2_1 (60 : Int32)).bind fun u_16 =>
          (fX6_takeNumber N u_16.2 (0 : Int32) (9999 : Int32)).bind fun u_17 =>
          (fX6_takeSign N u_17.2).bind fun u_18 =>
          (fX4_addPoint N L_4 u_16.1 u_17.1).bind fun u_20 =>
          fX6_readPoints_l1 N n (u_16.1 + (1 : Int32)) (x3_2 + (1 : Int32)) u_18 u_20
def fX6_readPoints (N : Nat) (rd : zOS) (L : zLS) : Option (zOS × zLS) :=
  (fX6_readPoints_l1 N N (0 : Int32) (0 : Int32) rd L).bind (fun u_24 =>
    some (u_24.1, u_24.2))
set_option maxHeartbeats 4000000 in
set_option maxRecDepth 100000 in
theorem qX6_readPoints (l : Launch) (D : va_G) (E : zE) (KL : List Nat) (kc : Nat → zKC) (on : zNS) (rw rd ft tr : zOS) (la : Nat → zLS) (mo : zMS) (j : Nat) (hj : j < 5) (L : zLS) (N sz : Nat)  (out : zOS × zLS) (hF : fX6_readPoints N rd L = some out) : zCv l yX6_readPoints zwX6_readPoints ({ frames := 7, cells := 0, slots := 0, locals := 151 }) [.ref (E.1 5), .ref (E.1 (13 + 11 * j))] D E sz (zW E KL kc on rw rd ft tr (va_up la j L) mo) (zW E KL kc on rw out.1 ft tr (va_up la j out.2) mo) 0 0 := by
  refine zent_v (cc := cX6_readPoints) (nL := 6) (by decide) rfl (Nat.le_of_ble_eq_true rfl) ?_
  intro p e s m args below meth c Q A hx hb hml hown hts hA hK hP hD hS hE ls hl hend
  have hown : s.vm.findClass RX6 = some m.cls := hown
  have hl : lv_has ls 6 [(0, .ref (E.1 5)), (1, .ref (E.1 (13 + 11 * j)))] := hl
  rw [fX6_readPoints] at hF
  refine lv_iconst (v := 0) hx hb dX6_readPoints_0 (by decide) ?_
  refine lv_istore_n (lv' := [(2, .int (0 : Int32)), (0, .ref (E.1 5)), (1, .ref (E.1 (13 + 11 * j)))]) hx hb dX6_readPoints_1 rfl hl (by decide) rfl (fun ls hl => ?_)
  refine lv_iconst (v := 0) hx hb dX6_readPoints_2 (by decide) ?_
  refine lv_istore_n (lv' := [(3, .int (0 : Int32)), (2, .int (0 : Int32)), (0, .ref (E.1 5)), (1, .ref (E.1 (13 + 11 * j)))]) hx hb dX6_readPoints_3 rfl hl (by decide) rfl (fun ls hl => ?_)
  obtain ⟨o_21, ho_21, hF⟩ := zbd hF
  have kx_1_0 : ∀ (rd_22 : zOS) (L_23 : zLS), (rd_22, L_23) = o_21 → ∀ (H : Heap) (locs : List Loc) (ls : Array Slot), va_P D vwCl (zW E KL kc on rw rd_22 ft tr (va_up la j L_23) mo) H → va_D A (zW E KL kc on rw rd_22 ft tr (va_up la j L_23) mo) → va_S A s.heap H locs → lv_has ls 6 [] → W p l e ({ frames := 7, cells := 0, slots := 0, locals := 151 } : Room) s m args below meth c H locs 0 0 Q (F0 m 74 ls []) := by
    intro rd_22 L_23 ho H locs ls hP hD hS hl
    subst ho
    obtain rfl := Option.some.inj hF
    exact hend _ _ _ _ hP hD hS dX6_readPoints_74
  have lp_1 : ∀ (n : Nat) (x2_1 : Int32) (x3_2 : Int32) (rd_3 : zOS) (L_4 : zLS) (o : (zOS × zLS)), fX6_readPoints_l1 N n x2_1 x3_2 rd_3 L_4 = some o → (∀ (rd_22 : zOS) (L_23 : zLS), (rd_22, L_23) = o → ∀ (H : Heap) (locs : List Loc) (ls : Array Slot), va_P D vwCl (zW E KL kc on rw rd_22 ft tr (va_up la j L_23) mo) H → va_D A (zW E KL kc on rw rd_22 ft tr (va_up la j L_23) mo) → va_S A s.heap H locs → lv_has ls 6 [] → W p l e ({ frames := 7, cells := 0, slots := 0, locals := 151 } : Room) s m args below meth c H locs 0 0 Q (F0 m 74 ls [])) → ∀ (H : Heap) (locs : List Loc) (ls : Array Slot), va_P D vwCl (zW E KL kc on rw rd_3 ft tr (va_up la j L_4) mo) H → va_D A (zW E KL kc on rw rd_3 ft tr (va_up la j L_4) mo) → va_S A s.heap H locs → lv_has ls 6 [(0, .ref (E.1 5)), (1, .ref (E.1 (13 + 11 * j))), (2, .int x2_1), (3, .int x3_2)] → W p l e ({ frames := 7, cells := 0, slots := 0, locals := 151 } : Room) s m args below meth c H locs 0 0 Q (F0 m 4 ls []) := by
    intro n
    induction n with
    | zero =>
      intro x2_1 x3_2 rd_3 L_4 o hF
      exact znone hF
    | succ n ih =>
      intro x2_1 x3_2 rd_3 L_4 o hF kx_1_0 H locs ls hP hD hS hl
      rw [fX6_readPoints_l1] at hF
      refine lv_iload_n hx hb dX6_readPoints_4 rfl (lv_at hl 3 rfl) ?_
      refine lv_if_eq (tgt := 23) hx hb dX6_readPoints_5 (by decide) (fun c_5 => ?_) (fun c_5 => ?_)
      · have hF := zit c_5 hF
        refine lv_aload_n hx hb dX6_readPoints_23 rfl (lv_at hl 0 rfl) ?_
        refine va_ldcS (own := RX6) (tx := zst.getD 3 "") (q := E.2.2.2.2.2.1 3) hx hb hown (hE.2.2.2.1 3 (by decide)) dX6_readPoints_24 ?_
        refine lv_iload_n hx hb dX6_readPoints_26 rfl (lv_at hl 3 rfl) ?_
        refine lv_bipush (v := 8) hx hb dX6_readPoints_27 (by decide) ?_
        obtain ⟨u_6, hu_6, hF⟩ := zbd hF
        refine zcall_v (va_runV (As := [.ref (E.2.2.2.2.2.1 3), .int x3_2, .int (8 : Int32)]) (rest := []) ⟨hx, hb, hml, hown, hts⟩ (qX6_takeWordOf l D E KL kc on rw rd_3 ft tr (va_up la j L_4) mo N _ 3 x3_2 (8 : Int32) _ hu_6) (cwV 3 hts (zgV k1_202 k1_204 kp0_12 k0_4 k1_205) rfl rfl rfl (by decide +kernel) ⟨Nat.le_of_ble_eq_true rfl, Nat.le_of_ble_eq_true rfl⟩) (zpv hE hS hA hK hP hD (va_recv hK hP (ci := 5) (q0 := 5) rfl (zg_rd _ _ _ _ _ _ _ _ _ _))) rfl rfl hl.1 rfl (lv_room (Nat.le_of_ble_eq_true rfl)) dX6_readPoints_29 ⟨Nat.zero_le _, Nat.zero_le _⟩) hD hS hA (fun H locs hP hD hS => ?_)
        refine lv_aload_n hx hb dX6_readPoints_32 rfl (lv_at hl 0 rfl) ?_
        refine lv_iload_n hx hb dX6_readPoints_33 rfl (lv_at hl 2 rfl) ?_
        refine lv_bipush (v := 60) hx hb dX6_readPoints_34 (by decide) ?_
        obtain ⟨u_7, hu_7, hF⟩ := zbd hF
        refine zcall_i (va_runV (As := [.int x2_1, .int (60 : Int32)]) (rest := []) ⟨hx, hb, hml, hown, hts⟩ (qX6_takeNumber l D E KL kc on rw u_6 ft tr (va_up la j L_4) mo N _ x2_1 (60 : Int32) _ hu_7) (cwV 2 hts (zgV k1_188 k1_190 kp0_9 k0_4 k1_191) rfl rfl rfl (by decide +kernel) ⟨Nat.le_of_ble_eq_true rfl, Nat.le_of_ble_eq_true rfl⟩) (zpv hE hS hA hK hP hD (va_recv hK hP (ci := 5) (q0 := 5) rfl (zg_rd _ _ _ _ _ _ _ _ _ _))) rfl rfl hl.1 rfl (lv_room (Nat.le_of_ble_eq_true rfl)) dX6_readPoints_36 ⟨Nat.zero_le _, Nat.zero_le _⟩) hD hS hA (fun H locs hP hD hS => ?_)
        refine lv_istore (lv' := [(4, .int u_7.1), (0, .ref (E.1 5)), (1, .ref (E.1 (13 + 11 * j))), (2, .int x2_1), (3, .int x3_2)]) hx hb dX6_readPoints_39 hl (by decide) rfl (fun ls hl => ?_)
        refine lv_aload_n hx hb dX6_readPoints_41 rfl (lv_at hl 1 rfl) ?_
        refine lv_iconst (v := 0) hx hb dX6_readPoints_42 (by decide) ?_
        refine lv_sipush (v := 9999) hx hb dX6_readPoints_43 (by decide) ?_
        obtain ⟨u_8, hu_8, hF⟩ := zbd hF
        refine zcall_i (va_runV (As := [.int (0 : Int32), .int (9999 : Int32)]) (rest := []) ⟨hx, hb, hml, hown, hts⟩ (qX6_takeNumber l D E KL kc on rw u_7.2 ft tr (va_up la j L_4) mo N _ (0 : Int32) (9999 : Int32) _ hu_8) (cwV 2 hts (zgV k1_188 k1_190 kp0_9 k0_4 k1_191) rfl rfl rfl (by decide +kernel) ⟨Nat.le_of_ble_eq_true rfl, Nat.le_of_ble_eq_true rfl⟩) (zpv hE hS hA hK hP hD (va_recv hK hP (ci := 5) (q0 := 5) rfl (zg_rd _ _ _ _ _ _ _ _ _ _))) rfl rfl hl.1 rfl (lv_room (Nat.le_of_ble_eq_true rfl)) dX6_readPoints_46 ⟨Nat.zero_le _, Nat.zero_le _⟩) hD hS hA (fun H locs hP hD hS => ?_)
        refine lv_istore (lv' := [(5, .int u_8.1), (4, .int u_7.1), (0, .ref (E.1 5)), (1, .ref (E.1 (13 + 11 * j))), (2, .int x2_1), (3, .int x3_2)]) hx hb dX6_readPoints_49 hl (by decide) rfl (fun ls hl => ?_)
        refine lv_aload_n hx hb dX6_readPoints_51 rfl (lv_at hl 2 rfl) ?_
        obtain ⟨u_9, hu_9, hF⟩ := zbd hF
        refine zcall_v (va_runV (As := []) (rest := []) ⟨hx, hb, hml, hown, hts⟩ (qX6_takeSign l D E KL kc on rw u_8.2 ft tr (va_up la j L_4) mo N _ _ hu_9) (cwV 0 hts (zgV k1_193 k1_195 kp0_10 k0_4 k1_196) rfl rfl rfl (by decide +kernel) ⟨Nat.le_of_ble_eq_true rfl, Nat.le_of_ble_eq_true rfl⟩) (zpv hE hS hA hK hP hD (va_recv hK hP (ci := 5) (q0 := 5) rfl (zg_rd _ _ _ _ _ _ _ _ _ _))) rfl rfl hl.1 rfl (lv_room (Nat.le_of_ble_eq_true rfl)) dX6_readPoints_52 ⟨Nat.zero_le _, Nat.zero_le _⟩) hD hS hA (fun H locs hP hD hS => ?_)
        refine lv_aload_n hx hb dX6_readPoints_55 rfl (lv_at hl 3 rfl) ?_
        refine lv_iload hx hb dX6_readPoints_56 (lv_at hl 1 rfl) ?_
        refine lv_iload hx hb dX6_readPoints_58 (lv_at hl 0 rfl) ?_
        have hrv_10 := (va_recv hK hP (ci := 3) (q0 := 13 + 11 * j) rfl (zg_L _ _ _ _ _ _ _ _ _ _ hj _))
        obtain ⟨u_11, hu_11, hF⟩ := zbd hF
        refine zcall_v (va_runV (As := [.int u_7.1, .int u_8.1]) (rest := []) ⟨hx, hb, hml, hown, hts⟩ (qX4_addPoint l D E KL kc on rw u_9 ft tr la mo j hj L_4 N _ u_7.1 u_8.1 _ hu_11) (cwV 2 hts (zgV k1_206 k1_207 k1_208 k0_6 k1_209) rfl rfl rfl (by decide +kernel) ⟨Nat.le_of_ble_eq_true rfl, Nat.le_of_ble_eq_true rfl⟩) (zpv hE hS hA hK hP hD hrv_10) rfl rfl hl.1 rfl (lv_room (Nat.le_of_ble_eq_true rfl)) dX6_readPoints_60 ⟨Nat.zero_le _, Nat.zero_le _⟩) hD hS hA (fun H locs hP hD hS => ?_)
        refine lv_iload hx hb dX6_readPoints_63 (lv_at hl 1 rfl) ?_
        refine lv_iconst (v := 1) hx hb dX6_readPoints_65 (by decide) ?_
        refine lv_iadd hx hb dX6_readPoints_66 ?_
        refine lv_istore_n (lv' := [(2, .int (u_7.1 + (1 : Int32))), (5, .int u_8.1), (4, .int u_7.1), (0, .ref (E.1 5)), (1, .ref (E.1 (13 + 11 * j))), (3, .int x3_2)]) hx hb dX6_readPoints_67 rfl hl (by decide) rfl (fun ls hl => ?_)
        refine lv_iinc (v := x3_2 + (1 : Int32)) (lv' := [(3, .int (x3_2 + (1 : Int32))), (2, .int (u_7.1 + (1 : Int32))), (5, .int u_8.1), (4, .int u_7.1), (0, .ref (E.1 5)), (1, .ref (E.1 (13 + 11 * j)))]) hx hb dX6_readPoints_68 hl (k := 5) rfl rfl (by decide) rfl (fun ls hl => ?_)
        refine lv_goto (tgt := 4) hx hb dX6_readPoints_71 (by decide) ?_
        exact ih (u_7.1 + (1 : Int32)) (x3_2 + (1 : Int32)) u_9 u_11 _ hF kx_1_0 _ _ _ hP hD hS (lv_sub hl [4, 5, 1, 0] rfl)
      · have hF := zif c_5 hF
        refine lv_iload_n hx hb dX6_readPoints_8 rfl (lv_at hl 3 rfl) ?_
        refine lv_bipush (v := 8) hx hb dX6_readPoints_9 (by decide) ?_
        refine lv_icmp_gt (tgt := 74) hx hb dX6_readPoints_11 (by decide) (fun c_12 => ?_) (fun c_12 => ?_)
        · have hF := zit c_12 hF
          exact kx_1_0 rd_3 L_4 (Option.some.inj hF) _ _ _ hP hD hS (lv_sub hl [] rfl)
        · have hF := zif c_12 hF
          refine lv_aload_n hx hb dX6_readPoints_14 rfl (lv_at hl 0 rfl) ?_
          refine va_ldcS (own := RX6) (tx := zst.getD 3 "") (q := E.2.2.2.2.2.1 3) hx hb hown (hE.2.2.2.1 3 (by decide)) dX6_readPoints_15 ?_
          obtain ⟨u_13, hu_13, hF⟩ := zbd hF
          refine zcall_i (va_runV (As := [.ref (E.2.2.2.2.2.1 3)]) (rest := []) ⟨hx, hb, hml, hown, hts⟩ (qX6_isWord l D E KL kc on rw rd_3 ft tr (va_up la j L_4) mo N _ 3 _ hu_13) (cwV 1 hts (zgV k1_130 k1_132 kp0_7 k0_4 k1_133) rfl rfl rfl (by decide +kernel) ⟨Nat.le_of_ble_eq_true rfl, Nat.le_of_ble_eq_true rfl⟩) (zpv hE hS hA hK hP hD (va_recv hK hP (ci := 5) (q0 := 5) rfl (zg_rd _ _ _ _ _ _ _ _ _ _))) rfl rfl hl.1 rfl (lv_room (Nat.le_of_ble_eq_true rfl)) dX6_readPoints_17 ⟨Nat.zero_le _, Nat.zero_le _⟩) hD hS hA (fun H locs hP hD hS => ?_)
          refine lv_if_eq (tgt := 74) hx hb dX6_readPoints_20 (by decide) (fun c_14 => ?_) (fun c_14 => ?_)
          · have hF := zit c_14 hF
            exact kx_1_0 rd_3 L_4 (Option.some.inj hF) _ _ _ hP hD hS (lv_sub hl [] rfl)
          · have hF := zif c_14 hF
            refine lv_aload_n hx hb dX6_readPoints_23 rfl (lv_at hl 0 rfl) ?_
            refine va_ldcS (own := RX6) (tx := zst.getD 3 "") (q := E.2.2.2.2.2.1 3) hx hb hown (hE.2.2.2.1 3 (by decide)) dX6_readPoints_24 ?_
            refine lv_iload_n hx hb dX6_readPoints_26 rfl (lv_at hl 3 rfl) ?_
            refine lv_bipush (v := 8) hx hb dX6_readPoints_27 (by decide) ?_
            obtain ⟨u_15, hu_15, hF⟩ := zbd hF
            refine zcall_v (va_runV (As := [.ref (E.2.2.2.2.2.1 3), .int x3_2, .int (8 : Int32)]) (rest := []) ⟨hx, hb, hml, hown, hts⟩ (qX6_takeWordOf l D E KL kc on rw rd_3 ft tr (va_up la j L_4) mo N _ 3 x3_2 (8 : Int32) _ hu_15) (cwV 3 hts (zgV k1_202 k1_204 kp0_12 k0_4 k1_205) rfl rfl rfl (by decide +kernel) ⟨Nat.le_of_ble_eq_true rfl, Nat.le_of_ble_eq_true rfl⟩) (zpv hE hS hA hK hP hD (va_recv hK hP (ci := 5) (q0 := 5) rfl (zg_rd _ _ _ _ _ _ _ _ _ _))) rfl rfl hl.1 rfl (lv_room (Nat.le_of_ble_eq_true rfl)) dX6_readPoints_29 ⟨Nat.zero_le _, Nat.zero_le _⟩) hD hS hA (fun H locs hP hD hS => ?_)
            refine lv_aload_n hx hb dX6_readPoints_32 rfl (lv_at hl 0 rfl) ?_
            refine lv_iload_n hx hb dX6_readPoints_33 rfl (lv_at hl 2 rfl) ?_
            refine lv_bipush (v := 60) hx hb dX6_readPoints_34 (by decide) ?_
            obtain ⟨u_16, hu_16, hF⟩ := zbd hF
            refine zcall_i (va_runV (As := [.int x2_1, .int (60 : Int32)]) (rest := []) ⟨hx, hb, hml, hown, hts⟩ (qX6_takeNumber l D E KL kc on rw u_15 ft tr (va_up la j L_4) mo N _ x2_1 (60 : Int32) _ hu_16) (cwV 2 hts (zgV k1_188 k1_190 kp0_9 k0_4 k1_191) rfl rfl rfl (by decide +kernel) ⟨Nat.le_of_ble_eq_true rfl, Nat.le_of_ble_eq_true rfl⟩) (zpv hE hS hA hK hP hD (va_recv hK hP (ci := 5) (q0 := 5) rfl (zg_rd _ _ _ _ _ _ _ _ _ _))) rfl rfl hl.1 rfl (lv_room (Nat.le_of_ble_eq_true rfl)) dX6_readPoints_36 ⟨Nat.zero_le _, Nat.zero_le _⟩) hD hS hA (fun H locs hP hD hS => ?_)
            refine lv_istore (lv' := [(4, .int u_16.1), (0, .ref (E.1 5)), (1, .ref (E.1 (13 + 11 * j))), (2, .int x2_1), (3, .int x3_2)]) hx hb dX6_readPoints_39 hl (by decide) rfl (fun ls hl => ?_)
            refine lv_aload_n hx hb dX6_readPoints_41 rfl (lv_at hl 1 rfl) ?_
            refine lv_iconst (v := 0) hx hb dX6_readPoints_42 (by decide) ?_
            refine lv_sipush (v := 9999) hx hb dX6_readPoints_43 (by decide) ?_
            obtain ⟨u_17, hu_17, hF⟩ := zbd hF
            refine zcall_i (va_runV (As := [.int (0 : Int32), .int (9999 : Int32)]) (rest := []) ⟨hx, hb, hml, hown, hts⟩ (qX6_takeNumber l D E KL kc on rw u_16.2 ft tr (va_up la j L_4) mo N _ (0 : Int32) (9999 : Int32) _ hu_17) (cwV 2 hts (zgV k1_188 k1_190 kp0_9 k0_4 k1_191) rfl rfl rfl (by decide +kernel) ⟨Nat.le_of_ble_eq_true rfl, Nat.le_of_ble_eq_true rfl⟩) (zpv hE hS hA hK hP hD (va_recv hK hP (ci := 5) (q0 := 5) rfl (zg_rd _ _ _ _ _ _ _ _ _ _))) rfl rfl hl.1 rfl (lv_room (Nat.le_of_ble_eq_true rfl)) dX6_readPoints_46 ⟨Nat.zero_le _, Nat.zero_le _⟩) hD hS hA (fun H locs hP hD hS => ?_)
            refine lv_istore (lv' := [(5, .int u_17.1), (4, .int u_16.1), (0, .ref (E.1 5)), (1, .ref (E.1 (13 + 11 * j))), (2, .int x2_1), (3, .int x3_2)]) hx hb dX6_readPoints_49 hl (by decide) rfl (fun ls hl => ?_)
            refine lv_aload_n hx hb dX6_readPoints_51 rfl (lv_at hl 2 rfl) ?_
            obtain ⟨u_18, hu_18, hF⟩ := zbd hF
            refine zcall_v (va_runV (As := []) (rest := []) ⟨hx, hb, hml, hown, hts⟩ (qX6_takeSign l D E KL kc on rw u_17.2 ft tr (va_up la j L_4) mo N _ _ hu_18) (cwV 0 hts (zgV k1_193 k1_195 kp0_10 k0_4 k1_196) rfl rfl rfl (by decide +kernel) ⟨Nat.le_of_ble_eq_true rfl, Nat.le_of_ble_eq_true rfl⟩) (zpv hE hS hA hK hP hD (va_recv hK hP (ci := 5) (q0 := 5) rfl (zg_rd _ _ _ _ _ _ _ _ _ _))) rfl rfl hl.1 rfl (lv_room (Nat.le_of_ble_eq_true rfl)) dX6_readPoints_52 ⟨Nat.zero_le _, Nat.zero_le _⟩) hD hS hA (fun H locs hP hD hS => ?_)
            refine lv_aload_n hx hb dX6_readPoints_55 rfl (lv_at hl 3 rfl) ?_
            refine lv_iload hx hb dX6_readPoints_56 (lv_at hl 1 rfl) ?_
            refine lv_iload hx hb dX6_readPoints_58 (lv_at hl 0 rfl) ?_
            have hrv_19 := (va_recv hK hP (ci := 3) (q0 := 13 + 11 * j) rfl (zg_L _ _ _ _ _ _ _ _ _ _ hj _))
            obtain ⟨u_20, hu_20, hF⟩ := zbd hF
            refine zcall_v (va_runV (As := [.int u_16.1, .int u_17.1]) (rest := []) ⟨hx, hb, hml, hown, hts⟩ (qX4_addPoint l D E KL kc on rw u_18 ft tr la mo j hj L_4 N _ u_16.1 u_17.1 _ hu_20) (cwV 2 hts (zgV k1_206 k1_207 k1_208 k0_6 k1_209) rfl rfl rfl (by decide +kernel) ⟨Nat.le_of_ble_eq_true rfl, Nat.le_of_ble_eq_true rfl⟩) (zpv hE hS hA hK hP hD hrv_19) rfl rfl hl.1 rfl (lv_room (Nat.le_of_ble_eq_true rfl)) dX6_readPoints_60 ⟨Nat.zero_le _, Nat.zero_le _⟩) hD hS hA (fun H locs hP hD hS => ?_)
            refine lv_iload hx hb dX6_readPoints_63 (lv_at hl 1 rfl) ?_
            refine lv_iconst (v := 1) hx hb dX6_readPoints_65 (by decide) ?_
            refine lv_iadd hx hb dX6_readPoints_66 ?_
            refine lv_istore_n (lv' := [(2, .int (u_16.1 + (1 : Int32))), (5, .int u_17.1), (4, .int u_16.1), (0, .ref (E.1 5)), (1, .ref (E.1 (13 + 11 * j))), (3, .int x3_2)]) hx hb dX6_readPoints_67 rfl hl (by decide) rfl (fun ls hl => ?_)
            refine lv_iinc (v := x3_2 + (1 : Int32)) (lv' := [(3, .int (x3_2 + (1 : Int32))), (2, .int (u_16.1 + (1 : Int32))), (5, .int u_17.1), (4, .int u_16.1), (0, .ref (E.1 5)), (1, .ref (E.1 (13 + 11 * j)))]) hx hb dX6_readPoints_68 hl (k := 5) rfl rfl (by decide) rfl (fun ls hl => ?_)
            refine lv_goto (tgt := 4) hx hb dX6_readPoints_71 (by decide) ?_
            exact ih (u_16.1 + (1 : Int32)) (x3_2 + (1 : Int32)) u_18 u_20 _ hF kx_1_0 _ _ _ hP hD hS (lv_sub hl [4, 5, 1, 0] rfl)
  exact lp_1 N (0 : Int32) (0 : Int32) rd L _ ho_21 kx_1_0 _ _ _ hP hD hS (lv_sub hl [2, 3, 1, 0] rfl)
def fX6_readNews_l3 (N : Nat) (L_13 : zLS) (x2_9 : Int32) (x3_10 : Int32) : Nat → Int32 → Int32 → zOS → Option (Int32 × zOS)
  | 0, _, _, _ => none
  | n + 1, x4_11, x5_12, rd_14 =>
    if (500 : Int32) ≤ x5_12 then
      some (x4_11, rd_14)
    else
      if (rd_14.1 4) = (2 : Int32) then
        (fX6_takeNumber N rd_14 (0 : Int32) ((L_13.1.1 6) - (1 : Int32))).bind fun u_17 =>
        fX6_readNews_l3 N L_13 x2_9 x3_10 n (x4_11 ||| ((1 : Int32) <<< (u_17.1 &&& 31))) (x5_12 + (1 : Int32)) u_17.2
      else
        some (x4_11, rd_14)
def fX6_readNews_l2 (N : Nat) : Nat → Int32 → zOS → zLS → Option (zOS × zLS)
  | 0, _, _, _ => none
  | n + 1, x2_1, rd_2, L_3 =>
    if (8 : Int32) < x2_1 then
      some (rd_2, L_3)
    else
      if (rd_2.1 4) = (5 : Int32) then
        some (rd_2, L_3)
      else
        if (rd_2.1 4) = (6 : Int32) then
          some (rd_2, L_3)
        else
          (fX6_takeWordOf N rd_2 6 x2_1 (8 : Int32)).bind fun u_7 =>
          (fX6_takeNumber N u_7 (0 : Int32) (999 : Int32)).bind fun u_8 =>
          (fX6_readNews_l3 N L_3 x2_1 u_8.1 N (0 : Int32) (0 : Int32) u_8.2).bind (fun u_24 =>
            (fX6_takeSign N u_24.2).bind fun u_21 =>
            (fX4_addPiece N L_3 u_8.1 u_24.1).bind fun u_23 =>
            fX6_readNews_l2 N n (x2_1 + (1 : Int32)) u_21 u_23)
def fX6_readNews (N : Nat) (rd : zOS) (L : zLS) : Option (zOS × zLS) :=
  (fX6_readNews_l2 N N (0 : Int32) rd L).bind (fun u_28 =>
    some (u_28.1, u_28.2))
set_option maxHeartbeats 4000000 in
set_option maxRecDepth 100000 in
theorem qX6_readNews (l : Launch) (D : va_G) (E : zE) (KL : List Nat) (kc : Nat → zKC) (on : zNS) (rw rd ft tr : zOS) (la : Nat → zLS) (mo : zMS) (j : Nat) (hj : j < 5) (L : zLS) (N sz : Nat)  (out : zOS × zLS) (hF : fX6_readNews N rd L = some out) : zCv l yX6_readNews zwX6_readNews ({ frames := 7, cells := 0, slots := 0, locals := 151 }) [.ref (E.1 5), .ref (E.1 (13 + 11 * j))] D E sz (zW E KL kc on rw rd ft tr (va_up la j L) mo) (zW E KL kc on rw out.1 ft tr (va_up la j out.2) mo) 0 0 := by
  refine zent_v (cc := cX6_readNews) (nL := 6) (by decide) rfl (Nat.le_of_ble_eq_true rfl) ?_
  intro p e s m args below meth c Q A hx hb hml hown hts hA hK hP hD hS hE ls hl hend
  have hown : s.vm.findClass RX6 = some m.cls := hown
  have hl : lv_has ls 6 [(0, .ref (E.1 5)), (1, .ref (E.1 (13 + 11 * j)))] := hl
  rw [fX6_readNews] at hF
  refine lv_iconst (v := 0) hx hb dX6_readNews_0 (by decide) ?_
  refine lv_istore_n (lv' := [(2, .int (0 : Int32)), (0, .ref (E.1 5)), (1, .ref (E.1 (13 + 11 * j)))]) hx hb dX6_readNews_1 rfl hl (by decide) rfl (fun ls hl => ?_)
  obtain ⟨o_25, ho_25, hF⟩ := zbd hF
  have kx_2_0 : ∀ (rd_26 : zOS) (L_27 : zLS), (rd_26, L_27) = o_25 → ∀ (H : Heap) (locs : List Loc) (ls : Array Slot), va_P D vwCl (zW E KL kc on rw rd_26 ft tr (va_up la j L_27) mo) H → va_D A (zW E KL kc on rw rd_26 ft tr (va_up la j L_27) mo) → va_S A s.heap H locs → lv_has ls 6 [] → W p l e ({ frames := 7, cells := 0, slots := 0, locals := 151 } : Room) s m args below meth c H locs 0 0 Q (F0 m 106 ls []) := by
    intro rd_26 L_27 ho H locs ls hP hD hS hl
    subst ho
    obtain rfl := Option.some.inj hF
    exact hend _ _ _ _ hP hD hS dX6_readNews_106
  have lp_2 : ∀ (n : Nat) (x2_1 : Int32) (rd_2 : zOS) (L_3 : zLS) (o : (zOS × zLS)), fX6_readNews_l2 N n x2_1 rd_2 L_3 = some o → (∀ (rd_26 : zOS) (L_27 : zLS), (rd_26, L_27) = o → ∀ (H : Heap) (locs : List Loc) (ls : Array Slot), va_P D vwCl (zW E KL kc on rw rd_26 ft tr (va_up la j L_27) mo) H → va_D A (zW E KL kc on rw rd_26 ft tr (va_up la j L_27) mo) → va_S A s.heap H locs → lv_has ls 6 [] → W p l e ({ frames := 7, cells := 0, slots := 0, locals := 151 } : Room) s m args below meth c H locs 0 0 Q (F0 m 106 ls [])) → ∀ (H : Heap) (locs : List Loc) (ls : Array Slot), va_P D vwCl (zW E KL kc on rw rd_2 ft tr (va_up la j L_3) mo) H → va_D A (zW E KL kc on rw rd_2 ft tr (va_up la j L_3) mo) → va_S A s.heap H locs → lv_has ls 6 [(0, .ref (E.1 5)), (1, .ref (E.1 (13 + 11 * j))), (2, .int x2_1)] → W p l e ({ frames := 7, cells := 0, slots := 0, locals := 151 } : Room) s m args below meth c H locs 0 0 Q (F0 m 2 ls []) := by
    intro n
    induction n with
    | zero =>
      intro x2_1 rd_2 L_3 o hF
      exact znone hF
    | succ n ih =>
      intro x2_1 rd_2 L_3 o hF kx_2_0 H locs ls hP hD hS hl
      rw [fX6_readNews_l2] at hF
      refine lv_iload_n hx hb dX6_readNews_2 rfl (lv_at hl 2 rfl) ?_
      refine lv_bipush (v := 8) hx hb dX6_readNews_3 (by decide) ?_
      refine lv_icmp_gt (tgt := 106) hx hb dX6_readNews_5 (by decide) (fun c_4 => ?_) (fun c_4 => ?_)
      · have hF := zit c_4 hF
        exact kx_2_0 rd_2 L_3 (Option.some.inj hF) _ _ _ hP hD hS (lv_sub hl [] rfl)
      · have hF := zif c_4 hF
        refine lv_aload_n hx hb dX6_readNews_8 rfl (lv_at hl 0 rfl) ?_
        refine va_get (D := D) (ci := 5) (v := .int (rd_2.1 4)) (C := RX6) (T := TX6) (N := 8) hx hb hts (zi iX6) hown hK hP 5 (zg_rd _ _ _ _ _ _ _ _ _ _) rfl 4 (by decide) (zh hts k0_62) (fun _ h9 => h9) rfl dX6_readNews_9 ?_
        refine lv_iconst (v := 5) hx hb dX6_readNews_12 (by decide) ?_
        refine lv_icmp_eq (tgt := 106) hx hb dX6_readNews_13 (by decide) (fun c_5 => ?_) (fun c_5 => ?_)
        · have hF := zit c_5 hF
          exact kx_2_0 rd_2 L_3 (Option.some.inj hF) _ _ _ hP hD hS (lv_sub hl [] rfl)
        · have hF := zif c_5 hF
          refine lv_aload_n hx hb dX6_readNews_16 rfl (lv_at hl 0 rfl) ?_
          refine va_get (D := D) (ci := 5) (v := .int (rd_2.1 4)) (C := RX6) (T := TX6) (N := 8) hx hb hts (zi iX6) hown hK hP 5 (zg_rd _ _ _ _ _ _ _ _ _ _) rfl 4 (by decide) (zh hts k0_62) (fun _ h9 => h9) rfl dX6_readNews_17 ?_
          refine lv_bipush (v := 6) hx hb dX6_readNews_20 (by decide) ?_
          refine lv_icmp_eq (tgt := 106) hx hb dX6_readNews_22 (by decide) (fun c_6 => ?_) (fun c_6 => ?_)
          · have hF := zit c_6 hF
            exact kx_2_0 rd_2 L_3 (Option.some.inj hF) _ _ _ hP hD hS (lv_sub hl [] rfl)
          · have hF := zif c_6 hF
            refine lv_aload_n hx hb dX6_readNews_25 rfl (lv_at hl 0 rfl) ?_
            refine va_ldcS (own := RX6) (tx := zst.getD 6 "") (q := E.2.2.2.2.2.1 6) hx hb hown (hE.2.2.2.1 6 (by decide)) dX6_readNews_26 ?_
            refine lv_iload_n hx hb dX6_readNews_28 rfl (lv_at hl 2 rfl) ?_
            refine lv_bipush (v := 8) hx hb dX6_readNews_29 (by decide) ?_
            obtain ⟨u_7, hu_7, hF⟩ := zbd hF
            refine zcall_v (va_runV (As := [.ref (E.2.2.2.2.2.1 6), .int x2_1, .int (8 : Int32)]) (rest := []) ⟨hx, hb, hml, hown, hts⟩ (qX6_takeWordOf l D E KL kc on rw rd_2 ft tr (va_up la j L_3) mo N _ 6 x2_1 (8 : Int32) _ hu_7) (cwV 3 hts (zgV k1_202 k1_204 kp0_12 k0_4 k1_205) rfl rfl rfl (by decide +kernel) ⟨Nat.le_of_ble_eq_true rfl, Nat.le_of_ble_eq_true rfl⟩) (zpv hE hS hA hK hP hD (va_recv hK hP (ci := 5) (q0 := 5) rfl (zg_rd _ _ _ _ _ _ _ _ _ _))) rfl rfl hl.1 rfl (lv_room (Nat.le_of_ble_eq_true rfl)) dX6_readNews_31 ⟨Nat.zero_le _, Nat.zero_le _⟩) hD hS hA (fun H locs hP hD hS => ?_)
            refine lv_aload_n hx hb dX6_readNews_34 rfl (lv_at hl 0 rfl) ?_
            refine lv_iconst (v := 0) hx hb dX6_readNews_35 (by decide) ?_
            refine lv_sipush (v := 999) hx hb dX6_readNews_36 (by decide) ?_
            obtain ⟨u_8, hu_8, hF⟩ := zbd hF
            refine zcall_i (va_runV (As := [.int (0 : Int32), .int (999 : Int32)]) (rest := []) ⟨hx, hb, hml, hown, hts⟩ (qX6_takeNumber l D E KL kc on rw u_7 ft tr (va_up la j L_3) mo N _ (0 : Int32) (999 : Int32) _ hu_8) (cwV 2 hts (zgV k1_188 k1_190 kp0_9 k0_4 k1_191) rfl rfl rfl (by decide +kernel) ⟨Nat.le_of_ble_eq_true rfl, Nat.le_of_ble_eq_true rfl⟩) (zpv hE hS hA hK hP hD (va_recv hK hP (ci := 5) (q0 := 5) rfl (zg_rd _ _ _ _ _ _ _ _ _ _))) rfl rfl hl.1 rfl (lv_room (Nat.le_of_ble_eq_true rfl)) dX6_readNews_39 ⟨Nat.zero_le _, Nat.zero_le _⟩) hD hS hA (fun H locs hP hD hS => ?_)
            refine lv_istore_n (lv' := [(3, .int u_8.1), (0, .ref (E.1 5)), (1, .ref (E.1 (13 + 11 * j))), (2, .int x2_1)]) hx hb dX6_readNews_42 rfl hl (by decide) rfl (fun ls hl => ?_)
            refine lv_iconst (v := 0) hx hb dX6_readNews_43 (by decide) ?_
            refine lv_istore (lv' := [(4, .int (0 : Int32)), (3, .int u_8.1), (0, .ref (E.1 5)), (1, .ref (E.1 (13 + 11 * j))), (2, .int x2_1)]) hx hb dX6_readNews_44 hl (by decide) rfl (fun ls hl => ?_)
            refine lv_iconst (v := 0) hx hb dX6_readNews_46 (by decide) ?_
            refine lv_istore (lv' := [(5, .int (0 : Int32)), (4, .int (0 : Int32)), (3, .int u_8.1), (0, .ref (E.1 5)), (1, .ref (E.1 (13 + 11 * j))), (2, .int x2_1)]) hx hb dX6_readNews_47 hl (by decide) rfl (fun ls hl => ?_)
            obtain ⟨o_18, ho_18, hF⟩ := zbd hF
            have kx_3_0 : ∀ (x4_19 : Int32) (rd_20 : zOS), (x4_19, rd_20) = o_18 → ∀ (H : Heap) (locs : List Loc) (ls : Array Slot), va_P D vwCl (zW E KL kc on rw rd_20 ft tr (va_up la j L_3) mo) H → va_D A (zW E KL kc on rw rd_20 ft tr (va_up la j L_3) mo) → va_S A s.heap H locs → lv_has ls 6 [(0, .ref (E.1 5)), (1, .ref (E.1 (13 + 11 * j))), (2, .int x2_1), (3, .int u_8.1), (4, .int x4_19)] → W p l e ({ frames := 7, cells := 0, slots := 0, locals := 151 } : Room) s m args below meth c H locs 0 0 Q (F0 m 89 ls []) := by
              intro x4_19 rd_20 ho H locs ls hP hD hS hl
              subst ho
              refine lv_aload_n hx hb dX6_readNews_89 rfl (lv_at hl 0 rfl) ?_
              obtain ⟨u_21, hu_21, hF⟩ := zbd hF
              refine zcall_v (va_runV (As := []) (rest := []) ⟨hx, hb, hml, hown, hts⟩ (qX6_takeSign l D E KL kc on rw rd_20 ft tr (va_up la j L_3) mo N _ _ hu_21) (cwV 0 hts (zgV k1_193 k1_195 kp0_10 k0_4 k1_196) rfl rfl rfl (by decide +kernel) ⟨Nat.le_of_ble_eq_true rfl, Nat.le_of_ble_eq_true rfl⟩) (zpv hE hS hA hK hP hD (va_recv hK hP (ci := 5) (q0 := 5) rfl (zg_rd _ _ _ _ _ _ _ _ _ _))) rfl rfl hl.1 rfl (lv_room (Nat.le_of_ble_eq_true rfl)) dX6_readNews_90 ⟨Nat.zero_le _, Nat.zero_le _⟩) hD hS hA (fun H locs hP hD hS => ?_)
              refine lv_aload_n hx hb dX6_readNews_93 rfl (lv_at hl 1 rfl) ?_
              refine lv_iload_n hx hb dX6_readNews_94 rfl (lv_at hl 3 rfl) ?_
              refine lv_iload hx hb dX6_readNews_95 (lv_at hl 4 rfl) ?_
              have hrv_22 := (va_recv hK hP (ci := 3) (q0 := 13 + 11 * j) rfl (zg_L _ _ _ _ _ _ _ _ _ _ hj _))
              obtain ⟨u_23, hu_23, hF⟩ := zbd hF
              refine zcall_v (va_runV (As := [.int u_8.1, .int x4_19]) (rest := []) ⟨hx, hb, hml, hown, hts⟩ (qX4_addPiece l D E KL kc on rw u_21 ft tr la mo j hj L_3 N _ u_8.1 x4_19 _ hu_23) (cwV 2 hts (zgV k2_73 k2_74 k2_75 k0_6 k2_76) rfl rfl rfl (by decide +kernel) ⟨Nat.le_of_ble_eq_true rfl, Nat.le_of_ble_eq_true rfl⟩) (zpv hE hS hA hK hP hD hrv_22) rfl rfl hl.1 rfl (lv_room (Nat.le_of_ble_eq_true rfl)) dX6_readNews_97 ⟨Nat.zero_le _, Nat.zero_le _⟩) hD hS hA (fun H locs hP hD hS => ?_)
              refine lv_iinc (v := x2_1 + (1 : Int32)) (lv' := [(2, .int (x2_1 + (1 : Int32))), (0, .ref (E.1 5)), (1, .ref (E.1 (13 + 11 * j))), (3, .int u_8.1), (4, .int x4_19)]) hx hb dX6_readNews_100 hl (k := 2) rfl rfl (by decide) rfl (fun ls hl => ?_)
              refine lv_goto (tgt := 2) hx hb dX6_readNews_103 (by decide) ?_
              exact ih (x2_1 + (1 : Int32)) u_21 u_23 _ hF kx_2_0 _ _ _ hP hD hS (lv_sub hl [1, 2, 0] rfl)
            have lp_3 : ∀ (L_13 : zLS) (x2_9 : Int32) (x3_10 : Int32) (n : Nat) (x4_11 : Int32) (x5_12 : Int32) (rd_14 : zOS) (o : (Int32 × zOS)), fX6_readNews_l3 N L_13 x2_9 x3_10 n x4_11 x5_12 rd_14 = some o → (∀ (x4_19 : Int32) (rd_20 : zOS), (x4_19, rd_20) = o → ∀ (H : Heap) (locs : List Loc) (ls : Array Slot), va_P D vwCl (zW E KL kc on rw rd_20 ft tr (va_up la j L_13) mo) H → va_D A (zW E KL kc on rw rd_20 ft tr (va_up la j L_13) mo) → va_S A s.heap H locs → lv_has ls 6 [(0, .ref (E.1 5)), (1, .ref (E.1 (13 + 11 * j))), (2, .int x2_9), (3, .int x3_10), (4, .int x4_19)] → W p l e ({ frames := 7, cells := 0, slots := 0, locals := 151 } : Room) s m args below meth c H locs 0 0 Q (F0 m 89 ls [])) → ∀ (H : Heap) (locs : List Loc) (ls : Array Slot), va_P D vwCl (zW E KL kc on rw rd_14 ft tr (va_up la j L_13) mo) H → va_D A (zW E KL kc on rw rd_14 ft tr (va_up la j L_13) mo) → va_S A s.heap H locs → lv_has ls 6 [(0, .ref (E.1 5)), (1, .ref (E.1 (13 + 11 * j))), (2, .int x2_9), (3, .int x3_10), (4, .int x4_11), (5, .int x5_12)] → W p l e ({ frames := 7, cells := 0, slots := 0, locals := 151 } : Room) s m args below meth c H locs 0 0 Q (F0 m 49 ls []) := by
              intro L_13 x2_9 x3_10 n
              induction n with
              | zero =>
                intro x4_11 x5_12 rd_14 o hF
                exact znone hF
              | succ n ih =>
                intro x4_11 x5_12 rd_14 o hF kx_3_0 H locs ls hP hD hS hl
                rw [fX6_readNews_l3] at hF
                refine lv_iload hx hb dX6_readNews_49 (lv_at hl 5 rfl) ?_
                refine lv_sipush (v := 500) hx hb dX6_readNews_51 (by decide) ?_
                refine lv_icmp_ge (tgt := 89) hx hb dX6_readNews_54 (by decide) (fun c_15 => ?_) (fun c_15 => ?_)
                · have hF := zit c_15 hF
                  exact kx_3_0 x4_11 rd_14 (Option.some.inj hF) _ _ _ hP hD hS (lv_sub hl [0, 1, 2, 3, 4] rfl)
                · have hF := zif c_15 hF
                  refine lv_aload_n hx hb dX6_readNews_57 rfl (lv_at hl 0 rfl) ?_
                  refine va_get (D := D) (ci := 5) (v := .int (rd_14.1 4)) (C := RX6) (T := TX6) (N := 8) hx hb hts (zi iX6) hown hK hP 5 (zg_rd _ _ _ _ _ _ _ _ _ _) rfl 4 (by decide) (zh hts k0_62) (fun _ h9 => h9) rfl dX6_readNews_58 ?_
                  refine lv_iconst (v := 2) hx hb dX6_readNews_61 (by decide) ?_
                  refine lv_icmp_ne (tgt := 89) hx hb dX6_readNews_62 (by decide) (fun c_16 => ?_) (fun c_16 => ?_)
                  · have hF := zif c_16 hF
                    exact kx_3_0 x4_11 rd_14 (Option.some.inj hF) _ _ _ hP hD hS (lv_sub hl [0, 1, 2, 3, 4] rfl)
                  · have hF := zit c_16 hF
                    refine lv_iload hx hb dX6_readNews_65 (lv_at hl 4 rfl) ?_
                    refine lv_iconst (v := 1) hx hb dX6_readNews_67 (by decide) ?_
                    refine lv_aload_n hx hb dX6_readNews_68 rfl (lv_at hl 0 rfl) ?_
                    refine lv_iconst (v := 0) hx hb dX6_readNews_69 (by decide) ?_
                    refine lv_aload_n hx hb dX6_readNews_70 rfl (lv_at hl 1 rfl) ?_
                    refine va_get (D := D) (ci := 3) (v := .int (L_13.1.1 6)) (C := RX4) (T := TX4) (N := 19) hx hb hts (zi iX4) hown hK hP (13 + 11 * j) (zg_L _ _ _ _ _ _ _ _ _ _ hj _) rfl 6 (by decide) (zh hts k0_119) (fun _ h9 => h9) rfl dX6_readNews_71 ?_
                    refine lv_iconst (v := 1) hx hb dX6_readNews_74 (by decide) ?_
                    refine lv_isub hx hb dX6_readNews_75 ?_
                    obtain ⟨u_17, hu_17, hF⟩ := zbd hF
                    refine zcall_i (va_runV (As := [.int (0 : Int32), .int ((L_13.1.1 6) - (1 : Int32))]) (rest := [.int (1 : Int32), .int x4_11]) ⟨hx, hb, hml, hown, hts⟩ (qX6_takeNumber l D E KL kc on rw rd_14 ft tr (va_up la j L_13) mo N _ (0 : Int32) ((L_13.1.1 6) - (1 : Int32)) _ hu_17) (cwV 2 hts (zgV k1_188 k1_190 kp0_9 k0_4 k1_191) rfl rfl rfl (by decide +kernel) ⟨Nat.le_of_ble_eq_true rfl, Nat.le_of_ble_eq_true rfl⟩) (zpv hE hS hA hK hP hD (va_recv hK hP (ci := 5) (q0 := 5) rfl (zg_rd _ _ _ _ _ _ _ _ _ _))) rfl rfl hl.1 rfl (lv_room (Nat.le_of_ble_eq_true rfl)) dX6_readNews_76 ⟨Nat.zero_le _, Nat.zero_le _⟩) hD hS hA (fun H locs hP hD hS => ?_)
                    refine lv_ishl hx hb dX6_readNews_79 ?_
                    refine lv_ior hx hb dX6_readNews_80 ?_
                    refine lv_istore (lv' := [(4, .int (x4_11 ||| ((1 : Int32) <<< (u_17.1 &&& 31)))), (0, .ref (E.1 5)), (1, .ref (E.1 (13 + 11 * j))), (2, .int x2_9), (3, .int x3_10), (5, .int x5_12)]) hx hb dX6_readNews_81 hl (by decide) rfl (fun ls hl => ?_)
                    refine lv_iinc (v := x5_12 + (1 : Int32)) (lv' := [(5, .int (x5_12 + (1 : Int32))), (4, .int (x4_11 ||| ((1 : Int32) <<< (u_17.1 &&& 31)))), (0, .ref (E.1 5)), (1, .ref (E.1 (13 + 11 * j))), (2, .int x2_9), (3, .int x3_10)]) hx hb dX6_readNews_83 hl (k := 5) rfl rfl (by decide) rfl (fun ls hl => ?_)
                    refine lv_goto (tgt := 49) hx hb dX6_readNews_86 (by decide) ?_
                    exact ih (x4_11 ||| ((1 : Int32) <<< (u_17.1 &&& 31))) (x5_12 + (1 : Int32)) u_17.2 _ hF kx_3_0 _ _ _ hP hD hS (lv_sub hl [2, 3, 4, 5, 1, 0] rfl)
            exact lp_3 L_3 x2_1 u_8.1 N (0 : Int32) (0 : Int32) u_8.2 _ ho_18 kx_3_0 _ _ _ hP hD hS (lv_sub hl [3, 4, 5, 2, 1, 0] rfl)
  exact lp_2 N (0 : Int32) rd L _ ho_25 kx_2_0 _ _ _ hP hD hS (lv_sub hl [1, 2, 0] rfl)
