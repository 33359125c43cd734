def fX4_isTold (N : Nat) (L : zLS) : Option Int32 :=
  if (L.1.1 6) ≤ 0 then
    some (0 : Int32)
  else
    some (1 : Int32)
set_option maxHeartbeats 4000000 in
set_option maxRecDepth 100000 in
theorem qX4_isTold (l : Launch) (D : va_G) (E : zE) (KL : List Nat) (kc : Nat → zKC) (on : zNS) (rw rd ft tr : zOS) (la : Nat → zLS) (mo : zMS) (j : Nat) (hj : j < 5) (L : zLS) (N sz : Nat)  (out : Int32) (hF : fX4_isTold N L = some out) : zCi l yX4_isTold zwX4_isTold ({ frames := 0, cells := 0, slots := 0, locals := 0 }) [.ref (E.1 (13 + 11 * j))] D E sz (zW E KL kc on rw rd ft tr (va_up la j L) mo) (zW E KL kc on rw rd ft tr (va_up la j L) mo) out 0 0 := by
  refine zent_z (cc := cX4_isTold) (nL := 1) (by decide) rfl (Nat.le_of_ble_eq_true rfl) ?_
  intro p e s m args below meth c Q A hx hb hml hown hts hA hK hP hD hS hE ls hl hend
  have hown : s.vm.findClass RX4 = some m.cls := hown
  have hl : lv_has ls 1 [(0, .ref (E.1 (13 + 11 * j)))] := hl
  rw [fX4_isTold] at hF
  refine lv_aload_n hx hb dX4_isTold_0 rfl (lv_at hl 0 rfl) ?_
  refine va_get (D := D) (ci := 3) (v := .int (L.1.1 6)) (C := RX4) (T := TX4) (N := 19) hx hb hts (zi iX4) hown hK hP (13 + 11 * j) (zg_L _ _ _ _ _ _ _ _ _ _ hj _) rfl 6 (by decide) (zh hts k0_116) (fun _ h9 => h9) rfl dX4_isTold_1 ?_
  refine lv_if_le (tgt := 11) hx hb dX4_isTold_4 (by decide) (fun c_1 => ?_) (fun c_1 => ?_)
  · have hF := zit c_1 hF
    refine lv_iconst (v := 0) hx hb dX4_isTold_11 (by decide) ?_
    obtain rfl := Option.some.inj hF
    exact hend _ _ _ _ znar0 hP hD hS dX4_isTold_12
  · have hF := zif c_1 hF
    refine lv_iconst (v := 1) hx hb dX4_isTold_7 (by decide) ?_
    refine lv_goto (tgt := 12) hx hb dX4_isTold_8 (by decide) ?_
    obtain rfl := Option.some.inj hF
    exact hend _ _ _ _ znar1 hP hD hS dX4_isTold_12
def fX4_isKeeper (N : Nat) (L : zLS) (x1 : Int32) : Option Int32 :=
  if x1 < 0 then
    some (0 : Int32)
  else
    if (L.1.1 6) ≤ x1 then
      some (0 : Int32)
    else
      if (6 : Int32) ≤ x1 then
        some (0 : Int32)
      else
        some (1 : Int32)
set_option maxHeartbeats 4000000 in
set_option maxRecDepth 100000 in
theorem qX4_isKeeper (l : Launch) (D : va_G) (E : zE) (KL : List Nat) (kc : Nat → zKC) (on : zNS) (rw rd ft tr : zOS) (la : Nat → zLS) (mo : zMS) (j : Nat) (hj : j < 5) (L : zLS) (N sz : Nat) (x1 : Int32) (out : Int32) (hF : fX4_isKeeper N L x1 = some out) : zCi l yX4_isKeeper zwX4_isKeeper ({ frames := 0, cells := 0, slots := 0, locals := 0 }) [.ref (E.1 (13 + 11 * j)), .int x1] D E sz (zW E KL kc on rw rd ft tr (va_up la j L) mo) (zW E KL kc on rw rd ft tr (va_up la j L) mo) out 0 0 := by
  refine zent_z (cc := cX4_isKeeper) (nL := 2) (by decide) rfl (Nat.le_of_ble_eq_true rfl) ?_
  intro p e s m args below meth c Q A hx hb hml hown hts hA hK hP hD hS hE ls hl hend
  have hown : s.vm.findClass RX4 = some m.cls := hown
  have hl : lv_has ls 2 [(0, .ref (E.1 (13 + 11 * j))), (1, .int x1)] := hl
  rw [fX4_isKeeper] at hF
  refine lv_iload_n hx hb dX4_isKeeper_0 rfl (lv_at hl 1 rfl) ?_
  refine lv_if_lt (tgt := 22) hx hb dX4_isKeeper_1 (by decide) (fun c_1 => ?_) (fun c_1 => ?_)
  · have hF := zit c_1 hF
    refine lv_iconst (v := 0) hx hb dX4_isKeeper_22 (by decide) ?_
    obtain rfl := Option.some.inj hF
    exact hend _ _ _ _ znar0 hP hD hS dX4_isKeeper_23
  · have hF := zif c_1 hF
    refine lv_iload_n hx hb dX4_isKeeper_4 rfl (lv_at hl 1 rfl) ?_
    refine lv_aload_n hx hb dX4_isKeeper_5 rfl (lv_at hl 0 rfl) ?_
    refine va_get (D := D) (ci := 3) (v := .int (L.1.1 6)) (C := RX4) (T := TX4) (N := 19) hx hb hts (zi iX4) hown hK hP (13 + 11 * j) (zg_L _ _ _ _ _ _ _ _ _ _ hj _) rfl 6 (by decide) (zh hts k0_116) (fun _ h9 => h9) rfl dX4_isKeeper_6 ?_
    refine lv_icmp_ge (tgt := 22) hx hb dX4_isKeeper_9 (by decide) (fun c_2 => ?_) (fun c_2 => ?_)
    · have hF := zit c_2 hF
      refine lv_iconst (v := 0) hx hb dX4_isKeeper_22 (by decide) ?_
      obtain rfl := Option.some.inj hF
      exact hend _ _ _ _ znar0 hP hD hS dX4_isKeeper_23
    · have hF := zif c_2 hF
      refine lv_iload_n hx hb dX4_isKeeper_12 rfl (lv_at hl 1 rfl) ?_
      refine lv_bipush (v := 6) hx hb dX4_isKeeper_13 (by decide) ?_
      refine lv_icmp_ge (tgt := 22) hx hb dX4_isKeeper_15 (by decide) (fun c_3 => ?_) (fun c_3 => ?_)
      · have hF := zit c_3 hF
        refine lv_iconst (v := 0) hx hb dX4_isKeeper_22 (by decide) ?_
        obtain rfl := Option.some.inj hF
        exact hend _ _ _ _ znar0 hP hD hS dX4_isKeeper_23
      · have hF := zif c_3 hF
        refine lv_iconst (v := 1) hx hb dX4_isKeeper_18 (by decide) ?_
        refine lv_goto (tgt := 23) hx hb dX4_isKeeper_19 (by decide) ?_
        obtain rfl := Option.some.inj hF
        exact hend _ _ _ _ znar1 hP hD hS dX4_isKeeper_23
def fX4_isPiece (N : Nat) (L : zLS) (x1 : Int32) : Option Int32 :=
  if x1 < 0 then
    some (0 : Int32)
  else
    if (L.1.1 7) ≤ x1 then
      some (0 : Int32)
    else
      if (8 : Int32) ≤ x1 then
        some (0 : Int32)
      else
        some (1 : Int32)
set_option maxHeartbeats 4000000 in
set_option maxRecDepth 100000 in
theorem qX4_isPiece (l : Launch) (D : va_G) (E : zE) (KL : List Nat) (kc : Nat → zKC) (on : zNS) (rw rd ft tr : zOS) (la : Nat → zLS) (mo : zMS) (j : Nat) (hj : j < 5) (L : zLS) (N sz : Nat) (x1 : Int32) (out : Int32) (hF : fX4_isPiece N L x1 = some out) : zCi l yX4_isPiece zwX4_isPiece ({ frames := 0, cells := 0, slots := 0, locals := 0 }) [.ref (E.1 (13 + 11 * j)), .int x1] D E sz (zW E KL kc on rw rd ft tr (va_up la j L) mo) (zW E KL kc on rw rd ft tr (va_up la j L) mo) out 0 0 := by
  refine zent_z (cc := cX4_isPiece) (nL := 2) (by decide) rfl (Nat.le_of_ble_eq_true rfl) ?_
  intro p e s m args below meth c Q A hx hb hml hown hts hA hK hP hD hS hE ls hl hend
  have hown : s.vm.findClass RX4 = some m.cls := hown
  have hl : lv_has ls 2 [(0, .ref (E.1 (13 + 11 * j))), (1, .int x1)] := hl
  rw [fX4_isPiece] at hF
  refine lv_iload_n hx hb dX4_isPiece_0 rfl (lv_at hl 1 rfl) ?_
  refine lv_if_lt (tgt := 22) hx hb dX4_isPiece_1 (by decide) (fun c_1 => ?_) (fun c_1 => ?_)
  · have hF := zit c_1 hF
    refine lv_iconst (v := 0) hx hb dX4_isPiece_22 (by decide) ?_
    obtain rfl := Option.some.inj hF
    exact hend _ _ _ _ znar0 hP hD hS dX4_isPiece_23
  · have hF := zif c_1 hF
    refine lv_iload_n hx hb dX4_isPiece_4 rfl (lv_at hl 1 rfl) ?_
    refine lv_aload_n hx hb dX4_isPiece_5 rfl (lv_at hl 0 rfl) ?_
    refine va_get (D := D) (ci := 3) (v := .int (L.1.1 7)) (C := RX4) (T := TX4) (N := 19) hx hb hts (zi iX4) hown hK hP (13 + 11 * j) (zg_L _ _ _ _ _ _ _ _ _ _ hj _) rfl 7 (by decide) (zh hts k0_121) (fun _ h9 => h9) rfl dX4_isPiece_6 ?_
    refine lv_icmp_ge (tgt := 22) hx hb dX4_isPiece_9 (by decide) (fun c_2 => ?_) (fun c_2 => ?_)
    · have hF := zit c_2 hF
      refine lv_iconst (v := 0) hx hb dX4_isPiece_22 (by decide) ?_
      obtain rfl := Option.some.inj hF
      exact hend _ _ _ _ znar0 hP hD hS dX4_isPiece_23
    · have hF := zif c_2 hF
      refine lv_iload_n hx hb dX4_isPiece_12 rfl (lv_at hl 1 rfl) ?_
      refine lv_bipush (v := 8) hx hb dX4_isPiece_13 (by decide) ?_
      refine lv_icmp_ge (tgt := 22) hx hb dX4_isPiece_15 (by decide) (fun c_3 => ?_) (fun c_3 => ?_)
      · have hF := zit c_3 hF
        refine lv_iconst (v := 0) hx hb dX4_isPiece_22 (by decide) ?_
        obtain rfl := Option.some.inj hF
        exact hend _ _ _ _ znar0 hP hD hS dX4_isPiece_23
      · have hF := zif c_3 hF
        refine lv_iconst (v := 1) hx hb dX4_isPiece_18 (by decide) ?_
        refine lv_goto (tgt := 23) hx hb dX4_isPiece_19 (by decide) ?_
        obtain rfl := Option.some.inj hF
        exact hend _ _ _ _ znar1 hP hD hS dX4_isPiece_23
def fX4_forget (N : Nat) (L : zLS) : Option zLS :=
  some (zLi (zLi (zLi L 2 (0 : Int32)) 6 (0 : Int32)) 7 (0 : Int32))
set_option maxHeartbeats 4000000 in
set_option maxRecDepth 100000 in
theorem qX4_forget (l : Launch) (D : va_G) (E : zE) (KL : List Nat) (kc : Nat → zKC) (on : zNS) (rw rd ft tr : zOS) (la : Nat → zLS) (mo : zMS) (j : Nat) (hj : j < 5) (L : zLS) (N sz : Nat)  (out : zLS) (hF : fX4_forget N L = some out) : zCv l yX4_forget zwX4_forget ({ frames := 0, cells := 0, slots := 0, locals := 0 }) [.ref (E.1 (13 + 11 * j))] D E sz (zW E KL kc on rw rd ft tr (va_up la j L) mo) (zW E KL kc on rw rd ft tr (va_up la j out) mo) 0 0 := by
  refine zent_v (cc := cX4_forget) (nL := 1) (by decide) rfl (Nat.le_of_ble_eq_true rfl) ?_
  intro p e s m args below meth c Q A hx hb hml hown hts hA hK hP hD hS hE ls hl hend
  have hown : s.vm.findClass RX4 = some m.cls := hown
  have hl : lv_has ls 1 [(0, .ref (E.1 (13 + 11 * j)))] := hl
  rw [fX4_forget] at hF
  refine lv_aload_n hx hb dX4_forget_0 rfl (lv_at hl 0 rfl) ?_
  refine lv_iconst (v := 0) hx hb dX4_forget_1 (by decide) ?_
  refine va_put (D := D) (ci := 3) (v := .int (0 : Int32)) (ty := .int) (C := RX4) (T := TX4) (N := 19) hx hb hts (zi iX4) tyX4 tyX4_ok nmX4 hown hK hP hD hS (13 + 11 * j) (zg_L _ _ _ _ _ _ _ _ _ _ hj _) rfl 2 (by decide) (zh hts k0_106) (fun _ h9 => h9) rfl (by decide +kernel) rfl rfl (Nat.le_of_ble_eq_true rfl) dX4_forget_2 (fun H locs hP hD hS => ?_)
  rw [zs_L_2 _ _ _ _ _ _ _ _ _ _ hj] at hP hD
  refine lv_aload_n hx hb dX4_forget_5 rfl (lv_at hl 0 rfl) ?_
  refine lv_iconst (v := 0) hx hb dX4_forget_6 (by decide) ?_
  refine va_put (D := D) (ci := 3) (v := .int (0 : Int32)) (ty := .int) (C := RX4) (T := TX4) (N := 19) hx hb hts (zi iX4) tyX4 tyX4_ok nmX4 hown hK hP hD hS (13 + 11 * j) (zg_L _ _ _ _ _ _ _ _ _ _ hj _) rfl 6 (by decide) (zh hts k0_116) (fun _ h9 => h9) rfl (by decide +kernel) rfl rfl (Nat.le_of_ble_eq_true rfl) dX4_forget_7 (fun H locs hP hD hS => ?_)
  rw [zs_L_6 _ _ _ _ _ _ _ _ _ _ hj] at hP hD
  refine lv_aload_n hx hb dX4_forget_10 rfl (lv_at hl 0 rfl) ?_
  refine lv_iconst (v := 0) hx hb dX4_forget_11 (by decide) ?_
  refine va_put (D := D) (ci := 3) (v := .int (0 : Int32)) (ty := .int) (C := RX4) (T := TX4) (N := 19) hx hb hts (zi iX4) tyX4 tyX4_ok nmX4 hown hK hP hD hS (13 + 11 * j) (zg_L _ _ _ _ _ _ _ _ _ _ hj _) rfl 7 (by decide) (zh hts k0_121) (fun _ h9 => h9) rfl (by decide +kernel) rfl rfl (Nat.le_of_ble_eq_true rfl) dX4_forget_12 (fun H locs hP hD hS => ?_)
  rw [zs_L_7 _ _ _ _ _ _ _ _ _ _ hj] at hP hD
  obtain rfl := Option.some.inj hF
  exact hend _ _ _ _ hP hD hS dX4_forget_15
def fX4_addPoint (N : Nat) (L : zLS) (x1 : Int32) (x2 : Int32) : Option zLS :=
  if (L.1.1 2) < 0 then
    some L
  else
    if (8 : Int32) ≤ (L.1.1 2) then
      some L
    else
      if (L.1.1 2) < 0 ∨ 8 ≤ (L.1.1 2).toNatClampNeg then none else
      if (L.1.1 2) < 0 ∨ 8 ≤ (L.1.1 2).toNatClampNeg then none else
      some (zLi (zLA (zLA L 9 (upd (L.1.2 9) ((L.1.1 2).toNatClampNeg) x1)) 10 (upd (L.1.2 10) ((L.1.1 2).toNatClampNeg) x2)) 2 ((L.1.1 2) + (1 : Int32)))
set_option maxHeartbeats 4000000 in
set_option maxRecDepth 100000 in
theorem qX4_addPoint (l : Launch) (D : va_G) (E : zE) (KL : List Nat) (kc : Nat → zKC) (on : zNS) (rw rd ft tr : zOS) (la : Nat → zLS) (mo : zMS) (j : Nat) (hj : j < 5) (L : zLS) (N sz : Nat) (x1 : Int32) (x2 : Int32) (out : zLS) (hF : fX4_addPoint N L x1 x2 = some out) : zCv l yX4_addPoint zwX4_addPoint ({ frames := 0, cells := 0, slots := 0, locals := 0 }) [.ref (E.1 (13 + 11 * j)), .int x1, .int x2] D E sz (zW E KL kc on rw rd ft tr (va_up la j L) mo) (zW E KL kc on rw rd ft tr (va_up la j out) mo) 0 0 := by
  refine zent_v (cc := cX4_addPoint) (nL := 3) (by decide) rfl (Nat.le_of_ble_eq_true rfl) ?_
  intro p e s m args below meth c Q A hx hb hml hown hts hA hK hP hD hS hE ls hl hend
  have hown : s.vm.findClass RX4 = some m.cls := hown
  have hl : lv_has ls 3 [(0, .ref (E.1 (13 + 11 * j))), (1, .int x1), (2, .int x2)] := hl
  rw [fX4_addPoint] at hF
  refine lv_aload_n hx hb dX4_addPoint_0 rfl (lv_at hl 0 rfl) ?_
  refine va_get (D := D) (ci := 3) (v := .int (L.1.1 2)) (C := RX4) (T := TX4) (N := 19) hx hb hts (zi iX4) hown hK hP (13 + 11 * j) (zg_L _ _ _ _ _ _ _ _ _ _ hj _) rfl 2 (by decide) (zh hts k0_106) (fun _ h9 => h9) rfl dX4_addPoint_1 ?_
  refine lv_if_lt (tgt := 46) hx hb dX4_addPoint_4 (by decide) (fun c_1 => ?_) (fun c_1 => ?_)
  · have hF := zit c_1 hF
    obtain rfl := Option.some.inj hF
    exact hend _ _ _ _ hP hD hS dX4_addPoint_46
  · have hF := zif c_1 hF
    refine lv_aload_n hx hb dX4_addPoint_7 rfl (lv_at hl 0 rfl) ?_
    refine va_get (D := D) (ci := 3) (v := .int (L.1.1 2)) (C := RX4) (T := TX4) (N := 19) hx hb hts (zi iX4) hown hK hP (13 + 11 * j) (zg_L _ _ _ _ _ _ _ _ _ _ hj _) rfl 2 (by decide) (zh hts k0_106) (fun _ h9 => h9) rfl dX4_addPoint_8 ?_
    refine lv_bipush (v := 8) hx hb dX4_addPoint_11 (by decide) ?_
    refine lv_icmp_ge (tgt := 46) hx hb dX4_addPoint_13 (by decide) (fun c_2 => ?_) (fun c_2 => ?_)
    · have hF := zit c_2 hF
      obtain rfl := Option.some.inj hF
      exact hend _ _ _ _ hP hD hS dX4_addPoint_46
    · have hF := zif c_2 hF
      refine lv_aload_n hx hb dX4_addPoint_16 rfl (lv_at hl 0 rfl) ?_
      refine va_get (D := D) (ci := 3) (v := .ref (E.1 (13 + 11 * j + 1))) (C := RX4) (T := TX4) (N := 19) hx hb hts (zi iX4) hown hK hP (13 + 11 * j) (zg_L _ _ _ _ _ _ _ _ _ _ hj _) rfl 9 (by decide) (zh hts k0_128) (fun _ h9 => h9) rfl dX4_addPoint_17 ?_
      refine lv_aload_n hx hb dX4_addPoint_20 rfl (lv_at hl 0 rfl) ?_
      refine va_get (D := D) (ci := 3) (v := .int (L.1.1 2)) (C := RX4) (T := TX4) (N := 19) hx hb hts (zi iX4) hown hK hP (13 + 11 * j) (zg_L _ _ _ _ _ _ _ _ _ _ hj _) rfl 2 (by decide) (zh hts k0_106) (fun _ h9 => h9) rfl dX4_addPoint_21 ?_
      refine lv_iload_n hx hb dX4_addPoint_24 rfl (lv_at hl 1 rfl) ?_
      obtain ⟨g_3, hF⟩ := zgd hF
      refine va_iast hx hb hK hP hD hS (13 + 11 * j + 1) 1 (zg_L_9 _ _ _ _ _ _ _ _ _ _ hj _) rfl g_3 dX4_addPoint_25 (fun H locs hP hD hS => ?_)
      rw [zs_L_9 _ _ _ _ _ _ _ _ _ _ hj] at hP hD
      have hP : va_P D vwCl (zW E KL kc on rw rd ft tr (va_up la j (zLA L 9 (upd (L.1.2 9) ((L.1.1 2).toNatClampNeg) x1))) mo) H := hP
      have hD : va_D A (zW E KL kc on rw rd ft tr (va_up la j (zLA L 9 (upd (L.1.2 9) ((L.1.1 2).toNatClampNeg) x1))) mo) := hD
      refine lv_aload_n hx hb dX4_addPoint_26 rfl (lv_at hl 0 rfl) ?_
      refine va_get (D := D) (ci := 3) (v := .ref (E.1 (13 + 11 * j + 2))) (C := RX4) (T := TX4) (N := 19) hx hb hts (zi iX4) hown hK hP (13 + 11 * j) (zg_L _ _ _ _ _ _ _ _ _ _ hj _) rfl 10 (by decide) (zh hts k0_129) (fun _ h9 => h9) rfl dX4_addPoint_27 ?_
      refine lv_aload_n hx hb dX4_addPoint_30 rfl (lv_at hl 0 rfl) ?_
      refine va_get (D := D) (ci := 3) (v := .int (L.1.1 2)) (C := RX4) (T := TX4) (N := 19) hx hb hts (zi iX4) hown hK hP (13 + 11 * j) (zg_L _ _ _ _ _ _ _ _ _ _ hj _) rfl 2 (by decide) (zh hts k0_106) (fun _ h9 => h9) rfl dX4_addPoint_31 ?_
      refine lv_iload_n hx hb dX4_addPoint_34 rfl (lv_at hl 2 rfl) ?_
      obtain ⟨g_4, hF⟩ := zgd hF
      refine va_iast hx hb hK hP hD hS (13 + 11 * j + 2) 1 (zg_L_10 _ _ _ _ _ _ _ _ _ _ hj _) rfl g_4 dX4_addPoint_35 (fun H locs hP hD hS => ?_)
      rw [zs_L_10 _ _ _ _ _ _ _ _ _ _ hj] at hP hD
      have hP : va_P D vwCl (zW E KL kc on rw rd ft tr (va_up la j (zLA (zLA L 9 (upd (L.1.2 9) ((L.1.1 2).toNatClampNeg) x1)) 10 (upd (L.1.2 10) ((L.1.1 2).toNatClampNeg) x2))) mo) H := hP
      have hD : va_D A (zW E KL kc on rw rd ft tr (va_up la j (zLA (zLA L 9 (upd (L.1.2 9) ((L.1.1 2).toNatClampNeg) x1)) 10 (upd (L.1.2 10) ((L.1.1 2).toNatClampNeg) x2))) mo) := hD
      refine lv_aload_n hx hb dX4_addPoint_36 rfl (lv_at hl 0 rfl) ?_
      refine lv_dup hx hb dX4_addPoint_37 rfl ?_
      refine va_get (D := D) (ci := 3) (v := .int (L.1.1 2)) (C := RX4) (T := TX4) (N := 19) hx hb hts (zi iX4) hown hK hP (13 + 11 * j) (zg_L _ _ _ _ _ _ _ _ _ _ hj _) rfl 2 (by decide) (zh hts k0_106) (fun _ h9 => h9) rfl dX4_addPoint_38 ?_
      refine lv_iconst (v := 1) hx hb dX4_addPoint_41 (by decide) ?_
      refine lv_iadd hx hb dX4_addPoint_42 ?_
      refine va_put (D := D) (ci := 3) (v := .int ((L.1.1 2) + (1 : Int32))) (ty := .int) (C := RX4) (T := TX4) (N := 19) hx hb hts (zi iX4) tyX4 tyX4_ok nmX4 hown hK hP hD hS (13 + 11 * j) (zg_L _ _ _ _ _ _ _ _ _ _ hj _) rfl 2 (by decide) (zh hts k0_106) (fun _ h9 => h9) rfl (by decide +kernel) rfl rfl (Nat.le_of_ble_eq_true rfl) dX4_addPoint_43 (fun H locs hP hD hS => ?_)
      rw [zs_L_2 _ _ _ _ _ _ _ _ _ _ hj] at hP hD
      obtain rfl := Option.some.inj hF
      exact hend _ _ _ _ hP hD hS dX4_addPoint_46
def fX4_addPiece (N : Nat) (L : zLS) (x1 : Int32) (x2 : Int32) : Option zLS :=
  if (L.1.1 7) < 0 then
    some L
  else
    if (8 : Int32) ≤ (L.1.1 7) then
      some L
    else
      if (L.1.1 7) < 0 ∨ 8 ≤ (L.1.1 7).toNatClampNeg then none else
      if (L.1.1 7) < 0 ∨ 8 ≤ (L.1.1 7).toNatClampNeg then none else
      some (zLi (zLA (zLA L 12 (upd (L.1.2 12) ((L.1.1 7).toNatClampNeg) x1)) 13 (upd (L.1.2 13) ((L.1.1 7).toNatClampNeg) x2)) 7 ((L.1.1 7) + (1 : Int32)))
set_option maxHeartbeats 4000000 in
set_option maxRecDepth 100000 in
theorem qX4_addPiece (l : Launch) (D : va_G) (E : zE) (KL : List Nat) (kc : Nat → zKC) (on : zNS) (rw rd ft tr : zOS) (la : Nat → zLS) (mo : zMS) (j : Nat) (hj : j < 5) (L : zLS) (N sz : Nat) (x1 : Int32) (x2 : Int32) (out : zLS) (hF : fX4_addPiece N L x1 x2 = some out) : zCv l yX4_addPiece zwX4_addPiece ({ frames := 0, cells := 0, slots := 0, locals := 0 }) [.ref (E.1 (13 + 11 * j)), .int x1, .int x2] D E sz (zW E KL kc on rw rd ft tr (va_up la j L) mo) (zW E KL kc on rw rd ft tr (va_up la j out) mo) 0 0 := by
  refine zent_v (cc := cX4_addPiece) (nL := 3) (by decide) rfl (Nat.le_of_ble_eq_true rfl) ?_
  intro p e s m args below meth c Q A hx hb hml hown hts hA hK hP hD hS hE ls hl hend
  have hown : s.vm.findClass RX4 = some m.cls := hown
  have hl : lv_has ls 3 [(0, .ref (E.1 (13 + 11 * j))), (1, .int x1), (2, .int x2)] := hl
  rw [fX4_addPiece] at hF
  refine lv_aload_n hx hb dX4_addPiece_0 rfl (lv_at hl 0 rfl) ?_
  refine va_get (D := D) (ci := 3) (v := .int (L.1.1 7)) (C := RX4) (T := TX4) (N := 19) hx hb hts (zi iX4) hown hK hP (13 + 11 * j) (zg_L _ _ _ _ _ _ _ _ _ _ hj _) rfl 7 (by decide) (zh hts k0_121) (fun _ h9 => h9) rfl dX4_addPiece_1 ?_
  refine lv_if_lt (tgt := 46) hx hb dX4_addPiece_4 (by decide) (fun c_1 => ?_) (fun c_1 => ?_)
  · have hF := zit c_1 hF
    obtain rfl := Option.some.inj hF
    exact hend _ _ _ _ hP hD hS dX4_addPiece_46
  · have hF := zif c_1 hF
    refine lv_aload_n hx hb dX4_addPiece_7 rfl (lv_at hl 0 rfl) ?_
    refine va_get (D := D) (ci := 3) (v := .int (L.1.1 7)) (C := RX4) (T := TX4) (N := 19) hx hb hts (zi iX4) hown hK hP (13 + 11 * j) (zg_L _ _ _ _ _ _ _ _ _ _ hj _) rfl 7 (by decide) (zh hts k0_121) (fun _ h9 => h9) rfl dX4_addPiece_8 ?_
    refine lv_bipush (v := 8) hx hb dX4_addPiece_11 (by decide) ?_
    refine lv_icmp_ge (tgt := 46) hx hb dX4_addPiece_13 (by decide) (fun c_2 => ?_) (fun c_2 => ?_)
    · have hF := zit c_2 hF
      obtain rfl := Option.some.inj hF
      exact hend _ _ _ _ hP hD hS dX4_addPiece_46
    · have hF := zif c_2 hF
      refine lv_aload_n hx hb dX4_addPiece_16 rfl (lv_at hl 0 rfl) ?_
      refine va_get (D := D) (ci := 3) (v := .ref (E.1 (13 + 11 * j + 4))) (C := RX4) (T := TX4) (N := 19) hx hb hts (zi iX4) hown hK hP (13 + 11 * j) (zg_L _ _ _ _ _ _ _ _ _ _ hj _) rfl 12 (by decide) (zh hts k0_131) (fun _ h9 => h9) rfl dX4_addPiece_17 ?_
      refine lv_aload_n hx hb dX4_addPiece_20 rfl (lv_at hl 0 rfl) ?_
      refine va_get (D := D) (ci := 3) (v := .int (L.1.1 7)) (C := RX4) (T := TX4) (N := 19) hx hb hts (zi iX4) hown hK hP (13 + 11 * j) (zg_L _ _ _ _ _ _ _ _ _ _ hj _) rfl 7 (by decide) (zh hts k0_121) (fun _ h9 => h9) rfl dX4_addPiece_21 ?_
      refine lv_iload_n hx hb dX4_addPiece_24 rfl (lv_at hl 1 rfl) ?_
      obtain ⟨g_3, hF⟩ := zgd hF
      refine va_iast hx hb hK hP hD hS (13 + 11 * j + 4) 1 (zg_L_12 _ _ _ _ _ _ _ _ _ _ hj _) rfl g_3 dX4_addPiece_25 (fun H locs hP hD hS => ?_)
      rw [zs_L_12 _ _ _ _ _ _ _ _ _ _ hj] at hP hD
      have hP : va_P D vwCl (zW E KL kc on rw rd ft tr (va_up la j (zLA L 12 (upd (L.1.2 12) ((L.1.1 7).toNatClampNeg) x1))) mo) H := hP
      have hD : va_D A (zW E KL kc on rw rd ft tr (va_up la j (zLA L 12 (upd (L.1.2 12) ((L.1.1 7).toNatClampNeg) x1))) mo) := hD
      refine lv_aload_n hx hb dX4_addPiece_26 rfl (lv_at hl 0 rfl) ?_
      refine va_get (D := D) (ci := 3) (v := .ref (E.1 (13 + 11 * j + 5))) (C := RX4) (T := TX4) (N := 19) hx hb hts (zi iX4) hown hK hP (13 + 11 * j) (zg_L _ _ _ _ _ _ _ _ _ _ hj _) rfl 13 (by decide) (zh hts k0_132) (fun _ h9 => h9) rfl dX4_addPiece_27 ?_
      refine lv_aload_n hx hb dX4_addPiece_30 rfl (lv_at hl 0 rfl) ?_
      refine va_get (D := D) (ci := 3) (v := .int (L.1.1 7)) (C := RX4) (T := TX4) (N := 19) hx hb hts (zi iX4) hown hK hP (13 + 11 * j) (zg_L _ _ _ _ _ _ _ _ _ _ hj _) rfl 7 (by decide) (zh hts k0_121) (fun _ h9 => h9) rfl dX4_addPiece_31 ?_
      refine lv_iload_n hx hb dX4_addPiece_34 rfl (lv_at hl 2 rfl) ?_
      obtain ⟨g_4, hF⟩ := zgd hF
      refine va_iast hx hb hK hP hD hS (13 + 11 * j + 5) 1 (zg_L_13 _ _ _ _ _ _ _ _ _ _ hj _) rfl g_4 dX4_addPiece_35 (fun H locs hP hD hS => ?_)
      rw [zs_L_13 _ _ _ _ _ _ _ _ _ _ hj] at hP hD
      have hP : va_P D vwCl (zW E KL kc on rw rd ft tr (va_up la j (zLA (zLA L 12 (upd (L.1.2 12) ((L.1.1 7).toNatClampNeg) x1)) 13 (upd (L.1.2 13) ((L.1.1 7).toNatClampNeg) x2))) mo) H := hP
      have hD : va_D A (zW E KL kc on rw rd ft tr (va_up la j (zLA (zLA L 12 (upd (L.1.2 12) ((L.1.1 7).toNatClampNeg) x1)) 13 (upd (L.1.2 13) ((L.1.1 7).toNatClampNeg) x2))) mo) := hD
      refine lv_aload_n hx hb dX4_addPiece_36 rfl (lv_at hl 0 rfl) ?_
      refine lv_dup hx hb dX4_addPiece_37 rfl ?_
      refine va_get (D := D) (ci := 3) (v := .int (L.1.1 7)) (C := RX4) (T := TX4) (N := 19) hx hb hts (zi iX4) hown hK hP (13 + 11 * j) (zg_L _ _ _ _ _ _ _ _ _ _ hj _) rfl 7 (by decide) (zh hts k0_121) (fun _ h9 => h9) rfl dX4_addPiece_38 ?_
      refine lv_iconst (v := 1) hx hb dX4_addPiece_41 (by decide) ?_
      refine lv_iadd hx hb dX4_addPiece_42 ?_
      refine va_put (D := D) (ci := 3) (v := .int ((L.1.1 7) + (1 : Int32))) (ty := .int) (C := RX4) (T := TX4) (N := 19) hx hb hts (zi iX4) tyX4 tyX4_ok nmX4 hown hK hP hD hS (13 + 11 * j) (zg_L _ _ _ _ _ _ _ _ _ _ hj _) rfl 7 (by decide) (zh hts k0_121) (fun _ h9 => h9) rfl (by decide +kernel) rfl rfl (Nat.le_of_ble_eq_true rfl) dX4_addPiece_43 (fun H locs hP hD hS => ?_)
      rw [zs_L_7 _ _ _ _ _ _ _ _ _ _ hj] at hP hD
      obtain rfl := Option.some.inj hF
      exact hend _ _ _ _ hP hD hS dX4_addPiece_46
def fX4_takeFrom_l1 (N : Nat) (KL : List Nat) (kc : Nat → zKC) (T_2 : zLS) : Nat → Int32 → zLS → Option zLS
  | 0, _, _ => none
  | n + 1, x2_1, L_3 =>
    if (6 : Int32) ≤ x2_1 then
      some L_3
    else
      if x2_1 < 0 ∨ 6 ≤ x2_1.toNatClampNeg then none else
      match T_2.2 x2_1.toNatClampNeg with
      | none =>
        if x2_1 < 0 ∨ 6 ≤ x2_1.toNatClampNeg then none else
        fX4_takeFrom_l1 N KL kc T_2 n (x2_1 + (1 : Int32)) (zLw L_3 (va_up L_3.2 x2_1.toNatClampNeg none))
      | some a_6 =>
        if ¬ zkd KL kc a_6 then none else
        if x2_1 < 0 ∨ 6 ≤ x2_1.toNatClampNeg then none else
        fX4_takeFrom_l1 N KL kc T_2 n (x2_1 + (1 : Int32)) (zLw L_3 (va_up L_3.2 x2_1.toNatClampNeg (some a_6)))
def fX4_takeFrom (N : Nat) (KL : List Nat) (kc : Nat → zKC) (L : zLS) (T : zLS) : Option zLS :=
  (fX4_takeFrom_l1 N KL kc T N (0 : Int32) (zLA (zLA (zLA (zLA (zLA (zLA (zLA (zLA (zLA (zLi (zLi (zLi (zLi (zLi (zLi (zLi (zLi (zLi L 0 (T.1.1 0)) 1 (T.1.1 1)) 2 (T.1.1 2)) 3 (T.1.1 3)) 4 (T.1.1 4)) 5 (T.1.1 5)) 6 (T.1.1 6)) 7 (T.1.1 7)) 8 (T.1.1 8)) 9 (va_cpy (T.1.2 9) (L.1.2 9) ((0 : Int32).toNatClampNeg) ((0 : Int32).toNatClampNeg) ((8 : Int32).toNatClampNeg))) 10 (va_cpy (T.1.2 10) (L.1.2 10) ((0 : Int32).toNatClampNeg) ((0 : Int32).toNatClampNeg) ((8 : Int32).toNatClampNeg))) 12 (va_cpy (T.1.2 12) (L.1.2 12) ((0 : Int32).toNatClampNeg) ((0 : Int32).toNatClampNeg) ((8 : Int32).toNatClampNeg))) 13 (va_cpy (T.1.2 13) (L.1.2 13) ((0 : Int32).toNatClampNeg) ((0 : Int32).toNatClampNeg) ((8 : Int32).toNatClampNeg))) 14 (va_cpy (T.1.2 14) (L.1.2 14) ((0 : Int32).toNatClampNeg) ((0 : Int32).toNatClampNeg) ((48 : Int32).toNatClampNeg))) 15 (va_cpy (T.1.2 15) (L.1.2 15) ((0 : Int32).toNatClampNeg) ((0 : Int32).toNatClampNeg) ((6 : Int32).toNatClampNeg))) 16 (va_cpy (T.1.2 16) (L.1.2 16) ((0 : Int32).toNatClampNeg) ((0 : Int32).toNatClampNeg) ((6 : Int32).toNatClampNeg))) 17 (va_cpy (T.1.2 17) (L.1.2 17) ((0 : Int32).toNatClampNeg) ((0 : Int32).toNatClampNeg) ((8 : Int32).toNatClampNeg))) 18 (va_cpy (T.1.2 18) (L.1.2 18) ((0 : Int32).toNatClampNeg) ((0 : Int32).toNatClampNeg) ((8 : Int32).toNatClampNeg)))).bind (fun u_13 =>
    some u_13)
set_option maxHeartbeats 4000000 in
set_option maxRecDepth 100000 in
theorem qX4_takeFrom (l : Launch) (D : va_G) (E : zE) (KL : List Nat) (kc : Nat → zKC) (on : zNS) (rw rd ft tr : zOS) (la : Nat → zLS) (mo : zMS) (j : Nat) (hj : j < 5) (L : zLS) (i : Nat) (hi : i < 5) (T : zLS) (hne : j ≠ i) (N sz : Nat)  (out : zLS) (hF : fX4_takeFrom N KL kc L T = some out) : zCv l yX4_takeFrom zwX4_takeFrom ({ frames := 1, cells := 0, slots := 0, locals := 60 }) [.ref (E.1 (13 + 11 * j)), .ref (E.1 (13 + 11 * i))] D E sz (zW E KL kc on rw rd ft tr (va_up (va_up la j L) i T) mo) (zW E KL kc on rw rd ft tr (va_up (va_up la j out) i T) mo) 0 0 := by
  refine zent_v (cc := cX4_takeFrom) (nL := 3) (by decide) rfl (Nat.le_of_ble_eq_true rfl) ?_
  intro p e s m args below meth c Q A hx hb hml hown hts hA hK hP hD hS hE ls hl hend
  have hown : s.vm.findClass RX4 = some m.cls := hown
  have hl : lv_has ls 3 [(0, .ref (E.1 (13 + 11 * j))), (1, .ref (E.1 (13 + 11 * i)))] := hl
  rw [fX4_takeFrom] at hF
  refine lv_aload_n hx hb dX4_takeFrom_0 rfl (lv_at hl 0 rfl) ?_
  refine lv_aload_n hx hb dX4_takeFrom_1 rfl (lv_at hl 1 rfl) ?_
  refine va_get (D := D) (ci := 3) (v := .int (T.1.1 0)) (C := RX4) (T := TX4) (N := 19) hx hb hts (zi iX4) hown hK hP (13 + 11 * i) (zg_L _ _ _ _ _ _ _ _ _ _ hi _) rfl 0 (by decide) (zh hts k0_99) (fun _ h9 => h9) rfl dX4_takeFrom_2 ?_
  rw [zup_comm _ (hne)] at hP hD
  refine va_put (D := D) (ci := 3) (v := .int (T.1.1 0)) (ty := .int) (C := RX4) (T := TX4) (N := 19) hx hb hts (zi iX4) tyX4 tyX4_ok nmX4 hown hK hP hD hS (13 + 11 * j) (zg_L _ _ _ _ _ _ _ _ _ _ hj _) rfl 0 (by decide) (zh hts k0_99) (fun _ h9 => h9) rfl (by decide +kernel) rfl rfl (Nat.le_of_ble_eq_true rfl) dX4_takeFrom_5 (fun H locs hP hD hS => ?_)
  rw [zs_L_0 _ _ _ _ _ _ _ _ _ _ hj] at hP hD
  refine lv_aload_n hx hb dX4_takeFrom_8 rfl (lv_at hl 0 rfl) ?_
  refine lv_aload_n hx hb dX4_takeFrom_9 rfl (lv_at hl 1 rfl) ?_
  rw [zup_comm _ (hne.symm)] at hP hD
  refine va_get (D := D) (ci := 3) (v := .int (T.1.1 1)) (C := RX4) (T := TX4) (N := 19) hx hb hts (zi iX4) hown hK hP (13 + 11 * i) (zg_L _ _ _ _ _ _ _ _ _ _ hi _) rfl 1 (by decide) (zh hts k0_104) (fun _ h9 => h9) rfl dX4_takeFrom_10 ?_
  rw [zup_comm _ (hne)] at hP hD
  refine va_put (D := D) (ci := 3) (v := .int (T.1.1 1)) (ty := .int) (C := RX4) (T := TX4) (N := 19) hx hb hts (zi iX4) tyX4 tyX4_ok nmX4 hown hK hP hD hS (13 + 11 * j) (zg_L _ _ _ _ _ _ _ _ _ _ hj _) rfl 1 (by decide) (zh hts k0_104) (fun _ h9 => h9) rfl (by decide +kernel) rfl rfl (Nat.le_of_ble_eq_true rfl) dX4_takeFrom_13 (fun H locs hP hD hS => ?_)
  rw [zs_L_1 _ _ _ _ _ _ _ _ _ _ hj] at hP hD
  refine lv_aload_n hx hb dX4_takeFrom_16 rfl (lv_at hl 0 rfl) ?_
  refine lv_aload_n hx hb dX4_takeFrom_17 rfl (lv_at hl 1 rfl) ?_
  rw [zup_comm _ (hne.symm)] at hP hD
  refine va_get (D := D) (ci := 3) (v := .int (T.1.1 2)) (C := RX4) (T := TX4) (N := 19) hx hb hts (zi iX4) hown hK hP (13 + 11 * i) (zg_L _ _ _ _ _ _ _ _ _ _ hi _) rfl 2 (by decide) (zh hts k0_106) (fun _ h9 => h9) rfl dX4_takeFrom_18 ?_
  rw [zup_comm _ (hne)] at hP hD
  refine va_put (D := D) (ci := 3) (v := .int (T.1.1 2)) (ty := .int) (C := RX4) (T := TX4) (N := 19) hx hb hts (zi iX4) tyX4 tyX4_ok nmX4 hown hK hP hD hS (13 + 11 * j) (zg_L _ _ _ _ _ _ _ _ _ _ hj _) rfl 2 (by decide) (zh hts k0_106) (fun _ h9 => h9) rfl (by decide +kernel) rfl rfl (Nat.le_of_ble_eq_true rfl) dX4_takeFrom_21 (fun H locs hP hD hS => ?_)
  rw [zs_L_2 _ _ _ _ _ _ _ _ _ _ hj] at hP hD
  refine lv_aload_n hx hb dX4_takeFrom_24 rfl (lv_at hl 0 rfl) ?_
  refine lv_aload_n hx hb dX4_takeFrom_25 rfl (lv_at hl 1 rfl) ?_
  rw [zup_comm _ (hne.symm)] at hP hD
  refine va_get (D := D) (ci := 3) (v := .int (T.1.1 3)) (C := RX4) (T := TX4) (N := 19) hx hb hts (zi iX4) hown hK hP (13 + 11 * i) (zg_L _ _ _ _ _ _ _ _ _ _ hi _) rfl 3 (by decide) (zh hts k0_110) (fun _ h9 => h9) rfl dX4_takeFrom_26 ?_
  rw [zup_comm _ (hne)] at hP hD
  refine va_put (D := D) (ci := 3) (v := .int (T.1.1 3)) (ty := .int) (C := RX4) (T := TX4) (N := 19) hx hb hts (zi iX4) tyX4 tyX4_ok nmX4 hown hK hP hD hS (13 + 11 * j) (zg_L _ _ _ _ _ _ _ _ _ _ hj _) rfl 3 (by decide) (zh hts k0_110) (fun _ h9 => h9) rfl (by decide +kernel) rfl rfl (Nat.le_of_ble_eq_true rfl) dX4_takeFrom_29 (fun H locs hP hD hS => ?_)
  rw [zs_L_3 _ _ _ _ _ _ _ _ _ _ hj] at hP hD
  refine lv_aload_n hx hb dX4_takeFrom_32 rfl (lv_at hl 0 rfl) ?_
  refine lv_aload_n hx hb dX4_takeFrom_33 rfl (lv_at hl 1 rfl) ?_
  rw [zup_comm _ (hne.symm)] at hP hD
  refine va_get (D := D) (ci := 3) (v := .int (T.1.1 4)) (C := RX4) (T := TX4) (N := 19) hx hb hts (zi iX4) hown hK hP (13 + 11 * i) (zg_L _ _ _ _ _ _ _ _ _ _ hi _) rfl 4 (by decide) (zh hts k0_112) (fun _ h9 => h9) rfl dX4_takeFrom_34 ?_
  rw [zup_comm _ (hne)] at hP hD
  refine va_put (D := D) (ci := 3) (v := .int (T.1.1 4)) (ty := .int) (C := RX4) (T := TX4) (N := 19) hx hb hts (zi iX4) tyX4 tyX4_ok nmX4 hown hK hP hD hS (13 + 11 * j) (zg_L _ _ _ _ _ _ _ _ _ _ hj _) rfl 4 (by decide) (zh hts k0_112) (fun _ h9 => h9) rfl (by decide +kernel) rfl rfl (Nat.le_of_ble_eq_true rfl) dX4_takeFrom_37 (fun H locs hP hD hS => ?_)
  rw [zs_L_4 _ _ _ _ _ _ _ _ _ _ hj] at hP hD
  refine lv_aload_n hx hb dX4_takeFrom_40 rfl (lv_at hl 0 rfl) ?_
  refine lv_aload_n hx hb dX4_takeFrom_41 rfl (lv_at hl 1 rfl) ?_
  rw [zup_comm _ (hne.symm)] at hP hD
  refine va_get (D := D) (ci := 3) (v := .int (T.1.1 5)) (C := RX4) (T := TX4) (N := 19) hx hb hts (zi iX4) hown hK hP (13 + 11 * i) (zg_L _ _ _ _ _ _ _ _ _ _ hi _) rfl 5 (by decide) (zh hts k0_115) (fun _ h9 => h9) rfl dX4_takeFrom_42 ?_
  rw [zup_comm _ (hne)] at hP hD
  refine va_put (D := D) (ci := 3) (v := .int (T.1.1 5)) (ty := .int) (C := RX4) (T := TX4) (N := 19) hx hb hts (zi iX4) tyX4 tyX4_ok nmX4 hown hK hP hD hS (13 + 11 * j) (zg_L _ _ _ _ _ _ _ _ _ _ hj _) rfl 5 (by decide) (zh hts k0_115) (fun _ h9 => h9) rfl (by decide +kernel) rfl rfl (Nat.le_of_ble_eq_true rfl) dX4_takeFrom_45 (fun H locs hP hD hS => ?_)
  rw [zs_L_5 _ _ _ _ _ _ _ _ _ _ hj] at hP hD
  refine lv_aload_n hx hb dX4_takeFrom_48 rfl (lv_at hl 0 rfl) ?_
  refine lv_aload_n hx hb dX4_takeFrom_49 rfl (lv_at hl 1 rfl) ?_
  rw [zup_comm _ (hne.symm)] at hP hD
  refine va_get (D := D) (ci := 3) (v := .int (T.1.1 6)) (C := RX4) (T := TX4) (N := 19) hx hb hts (zi iX4) hown hK hP (13 + 11 * i) (zg_L _ _ _ _ _ _ _ _ _ _ hi _) rfl 6 (by decide) (zh hts k0_116) (fun _ h9 => h9) rfl dX4_takeFrom_50 ?_
  rw [zup_comm _ (hne)] at hP hD
  refine va_put (D := D) (ci := 3) (v := .int (T.1.1 6)) (ty := .int) (C := RX4) (T := TX4) (N := 19) hx hb hts (zi iX4) tyX4 tyX4_ok nmX4 hown hK hP hD hS (13 + 11 * j) (zg_L _ _ _ _ _ _ _ _ _ _ hj _) rfl 6 (by decide) (zh hts k0_116) (fun _ h9 => h9) rfl (by decide +kernel) rfl rfl (Nat.le_of_ble_eq_true rfl) dX4_takeFrom_53 (fun H locs hP hD hS => ?_)
  rw [zs_L_6 _ _ _ _ _ _ _ _ _ _ hj] at hP hD
  refine lv_aload_n hx hb dX4_takeFrom_56 rfl (lv_at hl 0 rfl) ?_
  refine lv_aload_n hx hb dX4_takeFrom_57 rfl (lv_at hl 1 rfl) ?_
  rw [zup_comm _ (hne.symm)] at hP hD
  refine va_get (D := D) (ci := 3) (v := .int (T.1.1 7)) (C := RX4) (T := TX4) (N := 19) hx hb hts (zi iX4) hown hK hP (13 + 11 * i) (zg_L _ _ _ _ _ _ _ _ _ _ hi _) rfl 7 (by decide) (zh hts k0_121) (fun _ h9 => h9) rfl dX4_takeFrom_58 ?_
  rw [zup_comm _ (hne)] at hP hD
  refine va_put (D := D) (ci := 3) (v := .int (T.1.1 7)) (ty := .int) (C := RX4) (T := TX4) (N := 19) hx hb hts (zi iX4) tyX4 tyX4_ok nmX4 hown hK hP hD hS (13 + 11 * j) (zg_L _ _ _ _ _ _ _ _ _ _ hj _) rfl 7 (by decide) (zh hts k0_121) (fun _ h9 => h9) rfl (by decide +kernel) rfl rfl (Nat.le_of_ble_eq_true rfl) dX4_takeFrom_61 (fun H locs hP hD hS => ?_)
  rw [zs_L_7 _ _ _ _ _ _ _ _ _ _ hj] at hP hD
  refine lv_aload_n hx hb dX4_takeFrom_64 rfl (lv_at hl 0 rfl) ?_
  refine lv_aload_n hx hb dX4_takeFrom_65 rfl (lv_at hl 1 rfl) ?_
  rw [zup_comm _ (hne.symm)] at hP hD
  refine va_get (D := D) (ci := 3) (v := .int (T.1.1 8)) (C := RX4) (T := TX4) (N := 19) hx hb hts (zi iX4) hown hK hP (13 + 11 * i) (zg_L _ _ _ _ _ _ _ _ _ _ hi _) rfl 8 (by decide) (zh hts k0_125) (fun _ h9 => h9) rfl dX4_takeFrom_66 ?_
  rw [zup_comm _ (hne)] at hP hD
  refine va_put (D := D) (ci := 3) (v := .int (T.1.1 8)) (ty := .int) (C := RX4) (T := TX4) (N := 19) hx hb hts (zi iX4) tyX4 tyX4_ok nmX4 hown hK hP hD hS (13 + 11 * j) (zg_L _ _ _ _ _ _ _ _ _ _ hj _) rfl 8 (by decide) (zh hts k0_125) (fun _ h9 => h9) rfl (by decide +kernel) rfl rfl (Nat.le_of_ble_eq_true rfl) dX4_takeFrom_69 (fun H locs hP hD hS => ?_)
  rw [zs_L_8 _ _ _ _ _ _ _ _ _ _ hj] at hP hD
  refine lv_aload_n hx hb dX4_takeFrom_72 rfl (lv_at hl 1 rfl) ?_
  rw [zup_comm _ (hne.symm)] at hP hD
  refine va_get (D := D) (ci := 3) (v := .ref (E.1 (13 + 11 * i + 1))) (C := RX4) (T := TX4) (N := 19) hx hb hts (zi iX4) hown hK hP (13 + 11 * i) (zg_L _ _ _ _ _ _ _ _ _ _ hi _) rfl 9 (by decide) (zh hts k0_128) (fun _ h9 => h9) rfl dX4_takeFrom_73 ?_
  refine lv_iconst (v := 0) hx hb dX4_takeFrom_76 (by decide) ?_
  refine lv_aload_n hx hb dX4_takeFrom_77 rfl (lv_at hl 0 rfl) ?_
  rw [zup_comm _ (hne)] at hP hD
  refine va_get (D := D) (ci := 3) (v := .ref (E.1 (13 + 11 * j + 1))) (C := RX4) (T := TX4) (N := 19) hx hb hts (zi iX4) hown hK hP (13 + 11 * j) (zg_L _ _ _ _ _ _ _ _ _ _ hj _) rfl 9 (by decide) (zh hts k0_128) (fun _ h9 => h9) rfl dX4_takeFrom_78 ?_
  refine lv_iconst (v := 0) hx hb dX4_takeFrom_81 (by decide) ?_
  refine lv_bipush (v := 8) hx hb dX4_takeFrom_82 (by decide) ?_
  refine va_copyi hx hb (hml.trans hl.1.symm) (own := RX4) hown (zh hts k3_126) (zh hts k1_73) (zh hts k1_72) (zh hts k0_9) hK hP hD hS (13 + 11 * i + 1) (13 + 11 * j + 1) 1 1 ((congrArg (fun w : Nat → zLS => (zW E KL kc on rw rd ft tr w mo)[13 + 11 * i + 1]?) (zup_comm _ (hne.symm) _ _)).trans (zg_L_9 _ _ _ _ _ _ _ _ _ _ hi _)) (zg_L_9 _ _ _ _ _ _ _ _ _ _ hj _) rfl rfl rfl (by decide) (by decide) (by decide) (by decide) (by decide) (fun _ _ => rfl) (Nat.le_of_ble_eq_true rfl) (Nat.le_of_ble_eq_true rfl) dX4_takeFrom_84 (fun H locs hP hD hS => ?_)
  rw [zs_L_9 _ _ _ _ _ _ _ _ _ _ hj] at hP hD
  have hP : va_P D vwCl (zW E KL kc on rw rd ft tr (va_up (va_up la i T) j (zLA (zLi (zLi (zLi (zLi (zLi (zLi (zLi (zLi (zLi L 0 (T.1.1 0)) 1 (T.1.1 1)) 2 (T.1.1 2)) 3 (T.1.1 3)) 4 (T.1.1 4)) 5 (T.1.1 5)) 6 (T.1.1 6)) 7 (T.1.1 7)) 8 (T.1.1 8)) 9 (va_cpy (T.1.2 9) (L.1.2 9) ((0 : Int32).toNatClampNeg) ((0 : Int32).toNatClampNeg) ((8 : Int32).toNatClampNeg)))) mo) H := hP
  have hD : va_D A (zW E KL kc on rw rd ft tr (va_up (va_up la i T) j (zLA (zLi (zLi (zLi (zLi (zLi (zLi (zLi (zLi (zLi L 0 (T.1.1 0)) 1 (T.1.1 1)) 2 (T.1.1 2)) 3 (T.1.1 3)) 4 (T.1.1 4)) 5 (T.1.1 5)) 6 (T.1.1 6)) 7 (T.1.1 7)) 8 (T.1.1 8)) 9 (va_cpy (T.1.2 9) (L.1.2 9) ((0 : Int32).toNatClampNeg) ((0 : Int32).toNatClampNeg) ((8 : Int32).toNatClampNeg)))) mo) := hD
  refine lv_aload_n hx hb dX4_takeFrom_87 rfl (lv_at hl 1 rfl) ?_
  rw [zup_comm _ (hne.symm)] at hP hD
  refine va_get (D := D) (ci := 3) (v := .ref (E.1 (13 + 11 * i + 2))) (C := RX4) (T := TX4) (N := 19) hx hb hts (zi iX4) hown hK hP (13 + 11 * i) (zg_L _ _ _ _ _ _ _ _ _ _ hi _) rfl 10 (by decide) (zh hts k0_129) (fun _ h9 => h9) rfl dX4_takeFrom_88 ?_
  refine lv_iconst (v := 0) hx hb dX4_takeFrom_91 (by decide) ?_
  refine lv_aload_n hx hb dX4_takeFrom_92 rfl (lv_at hl 0 rfl) ?_
  rw [zup_comm _ (hne)] at hP hD
  refine va_get (D := D) (ci := 3) (v := .ref (E.1 (13 + 11 * j + 2))) (C := RX4) (T := TX4) (N := 19) hx hb hts (zi iX4) hown hK hP (13 + 11 * j) (zg_L _ _ _ _ _ _ _ _ _ _ hj _) rfl 10 (by decide) (zh hts k0_129) (fun _ h9 => h9) rfl dX4_takeFrom_93 ?_
  refine lv_iconst (v := 0) hx hb dX4_takeFrom_96 (by decide) ?_
  refine lv_bipush (v := 8) hx hb dX4_takeFrom_97 (by decide) ?_
  refine va_copyi hx hb (hml.trans hl.1.symm) (own := RX4) hown (zh hts k3_126) (zh hts k1_73) (zh hts k1_72) (zh hts k0_9) hK hP hD hS (13 + 11 * i + 2) (13 + 11 * j + 2) 1 1 ((congrArg (fun w : Nat → zLS => (zW E KL kc on rw rd ft tr w mo)[13 + 11 * i + 2]?) (zup_comm _ (hne.symm) _ _)).trans (zg_L_10 _ _ _ _ _ _ _ _ _ _ hi _)) (zg_L_10 _ _ _ _ _ _ _ _ _ _ hj _) rfl rfl rfl (by decide) (by decide) (by decide) (by decide) (by decide) (fun _ _ => rfl) (Nat.le_of_ble_eq_true rfl) (Nat.le_of_ble_eq_true rfl) dX4_takeFrom_99 (fun H locs hP hD hS => ?_)
  rw [zs_L_10 _ _ _ _ _ _ _ _ _ _ hj] at hP hD
  have hP : va_P D vwCl (zW E KL kc on rw rd ft tr (va_up (va_up la i T) j (zLA (zLA (zLi (zLi (zLi (zLi (zLi (zLi (zLi (zLi (zLi L 0 (T.1.1 0)) 1 (T.1.1 1)) 2 (T.1.1 2)) 3 (T.1.1 3)) 4 (T.1.1 4)) 5 (T.1.1 5)) 6 (T.1.1 6)) 7 (T.1.1 7)) 8 (T.1.1 8)) 9 (va_cpy (T.1.2 9) (L.1.2 9) ((0 : Int32).toNatClampNeg) ((0 : Int32).toNatClampNeg) ((8 : Int32).toNatClampNeg))) 10 (va_cpy (T.1.2 10) (L.1.2 10) ((0 : Int32).toNatClampNeg) ((0 : Int32).toNatClampNeg) ((8 : Int32).toNatClampNeg)))) mo) H := hP
  have hD : va_D A (zW E KL kc on rw rd ft tr (va_up (va_up la i T) j (zLA (zLA (zLi (zLi (zLi (zLi (zLi (zLi (zLi (zLi (zLi L 0 (T.1.1 0)) 1 (T.1.1 1)) 2 (T.1.1 2)) 3 (T.1.1 3)) 4 (T.1.1 4)) 5 (T.1.1 5)) 6 (T.1.1 6)) 7 (T.1.1 7)) 8 (T.1.1 8)) 9 (va_cpy (T.1.2 9) (L.1.2 9) ((0 : Int32).toNatClampNeg) ((0 : Int32).toNatClampNeg) ((8 : Int32).toNatClampNeg))) 10 (va_cpy (T.1.2 10) (L.1.2 10) ((0 : Int32).toNatClampNeg) ((0 : Int32).toNatClampNeg) ((8 : Int32).toNatClampNeg)))) mo) := hD
  refine lv_aload_n hx hb dX4_takeFrom_102 rfl (lv_at hl 1 rfl) ?_
  rw [zup_comm _ (hne.symm)] at hP hD
  refine va_get (D := D) (ci := 3) (v := .ref (E.1 (13 + 11 * i + 4))) (C := RX4) (T := TX4) (N := 19) hx hb hts (zi iX4) hown hK hP (13 + 11 * i) (zg_L _ _ _ _ _ _ _ _ _ _ hi _) rfl 12 (by decide) (zh hts k0_131) (fun _ h9 => h9) rfl dX4_takeFrom_103 ?_
  refine lv_iconst (v := 0) hx hb dX4_takeFrom_106 (by decide) ?_
  refine lv_aload_n hx hb dX4_takeFrom_107 rfl (lv_at hl 0 rfl) ?_
  rw [zup_comm _ (hne)] at hP hD
  refine va_get (D := D) (ci := 3) (v := .ref (E.1 (13 + 11 * j + 4))) (C := RX4) (T := TX4) (N := 19) hx hb hts (zi iX4) hown hK hP (13 + 11 * j) (zg_L _ _ _ _ _ _ _ _ _ _ hj _) rfl 12 (by decide) (zh hts k0_131) (fun _ h9 => h9) rfl dX4_takeFrom_108 ?_
  refine lv_iconst (v := 0) hx hb dX4_takeFrom_111 (by decide) ?_
  refine lv_bipush (v := 8) hx hb dX4_takeFrom_112 (by decide) ?_
  refine va_copyi hx hb (hml.trans hl.1.symm) (own := RX4) hown (zh hts k3_126) (zh hts k1_73) (zh hts k1_72) (zh hts k0_9) hK hP hD hS (13 + 11 * i + 4) (13 + 11 * j + 4) 1 1 ((congrArg (fun w : Nat → zLS => (zW E KL kc on rw rd ft tr w mo)[13 + 11 * i + 4]?) (zup_comm _ (hne.symm) _ _)).trans (zg_L_12 _ _ _ _ _ _ _ _ _ _ hi _)) (zg_L_12 _ _ _ _ _ _ _ _ _ _ hj _) rfl rfl rfl (by decide) (by decide) (by decide) (by decide) (by decide) (fun _ _ => rfl) (Nat.le_of_ble_eq_true rfl) (Nat.le_of_ble_eq_true rfl) dX4_takeFrom_114 (fun H locs hP hD hS => ?_)
  rw [zs_L_12 _ _ _ _ _ _ _ _ _ _ hj] at hP hD
  have hP : va_P D vwCl (zW E KL kc on rw rd ft tr (va_up (va_up la i T) j (zLA (zLA (zLA (zLi (zLi (zLi (zLi (zLi (zLi (zLi (zLi (zLi L 0 (T.1.1 0)) 1 (T.1.1 1)) 2 (T.1.1 2)) 3 (T.1.1 3)) 4 (T.1.1 4)) 5 (T.1.1 5)) 6 (T.1.1 6)) 7 (T.1.1 7)) 8 (T.1.1 8)) 9 (va_cpy (T.1.2 9) (L.1.2 9) ((0 : Int32).toNatClampNeg) ((0 : Int32).toNatClampNeg) ((8 : Int32).toNatClampNeg))) 10 (va_cpy (T.1.2 10) (L.1.2 10) ((0 : Int32).toNatClampNeg) ((0 : Int32).toNatClampNeg) ((8 : Int32).toNatClampNeg))) 12 (va_cpy (T.1.2 12) (L.1.2 12) ((0 : Int32).toNatClampNeg) ((0 : Int32).toNatClampNeg) ((8 : Int32).toNatClampNeg)))) mo) H := hP
  have hD : va_D A (zW E KL kc on rw rd ft tr (va_up (va_up la i T) j (zLA (zLA (zLA (zLi (zLi (zLi (zLi (zLi (zLi (zLi (zLi (zLi L 0 (T.1.1 0)) 1 (T.1.1 1)) 2 (T.1.1 2)) 3 (T.1.1 3)) 4 (T.1.1 4)) 5 (T.1.1 5)) 6 (T.1.1 6)) 7 (T.1.1 7)) 8 (T.1.1 8)) 9 (va_cpy (T.1.2 9) (L.1.2 9) ((0 : Int32).toNatClampNeg) ((0 : Int32).toNatClampNeg) ((8 : Int32).toNatClampNeg))) 10 (va_cpy (T.1.2 10) (L.1.2 10) ((0 : Int32).toNatClampNeg) ((0 : Int32).toNatClampNeg) ((8 : Int32).toNatClampNeg))) 12 (va_cpy (T.1.2 12) (L.1.2 12) ((0 : Int32).toNatClampNeg) ((0 : Int32).toNatClampNeg) ((8 : Int32).toNatClampNeg)))) mo) := hD
  refine lv_aload_n hx hb dX4_takeFrom_117 rfl (lv_at hl 1 rfl) ?_
  rw [zup_comm _ (hne.symm)] at hP hD
  refine va_get (D := D) (ci := 3) (v := .ref (E.1 (13 + 11 * i + 5))) (C := RX4) (T := TX4) (N := 19) hx hb hts (zi iX4) hown hK hP (13 + 11 * i) (zg_L _ _ _ _ _ _ _ _ _ _ hi _) rfl 13 (by decide) (zh hts k0_132) (fun _ h9 => h9) rfl dX4_takeFrom_118 ?_
  refine lv_iconst (v := 0) hx hb dX4_takeFrom_121 (by decide) ?_
  refine lv_aload_n hx hb dX4_takeFrom_122 rfl (lv_at hl 0 rfl) ?_
  rw [zup_comm _ (hne)] at hP hD
  refine va_get (D := D) (ci := 3) (v := .ref (E.1 (13 + 11 * j + 5))) (C := RX4) (T := TX4) (N := 19) hx hb hts (zi iX4) hown hK hP (13 + 11 * j) (zg_L _ _ _ _ _ _ _ _ _ _ hj _) rfl 13 (by decide) (zh hts k0_132) (fun _ h9 => h9) rfl dX4_takeFrom_123 ?_
  refine lv_iconst (v := 0) hx hb dX4_takeFrom_126 (by decide) ?_
  refine lv_bipush (v := 8) hx hb dX4_takeFrom_127 (by decide) ?_
  refine va_copyi hx hb (hml.trans hl.1.symm) (own := RX4) hown (zh hts k3_126) (zh hts k1_73) (zh hts k1_72) (zh hts k0_9) hK hP hD hS (13 + 11 * i + 5) (13 + 11 * j + 5) 1 1 ((congrArg (fun w : Nat → zLS => (zW E KL kc on rw rd ft tr w mo)[13 + 11 * i + 5]?) (zup_comm _ (hne.symm) _ _)).trans (zg_L_13 _ _ _ _ _ _ _ _ _ _ hi _)) (zg_L_13 _ _ _ _ _ _ _ _ _ _ hj _) rfl rfl rfl (by decide) (by decide) (by decide) (by decide) (by decide) (fun _ _ => rfl) (Nat.le_of_ble_eq_true rfl) (Nat.le_of_ble_eq_true rfl) dX4_takeFrom_129 (fun H locs hP hD hS => ?_)
  rw [zs_L_13 _ _ _ _ _ _ _ _ _ _ hj] at hP hD
  have hP : va_P D vwCl (zW E KL kc on rw rd ft tr (va_up (va_up la i T) j (zLA (zLA (zLA (zLA (zLi (zLi (zLi (zLi (zLi (zLi (zLi (zLi (zLi L 0 (T.1.1 0)) 1 (T.1.1 1)) 2 (T.1.1 2)) 3 (T.1.1 3)) 4 (T.1.1 4)) 5 (T.1.1 5)) 6 (T.1.1 6)) 7 (T.1.1 7)) 8 (T.1.1 8)) 9 (va_cpy (T.1.2 9) (L.1.2 9) ((0 : Int32).toNatClampNeg) ((0 : Int32).toNatClampNeg) ((8 : Int32).toNatClampNeg))) 10 (va_cpy (T.1.2 10) (L.1.2 10) ((0 : Int32).toNatClampNeg) ((0 : Int32).toNatClampNeg) ((8 : Int32).toNatClampNeg))) 12 (va_cpy (T.1.2 12) (L.1.2 12) ((0 : Int32).toNatClampNeg) ((0 : Int32).toNatClampNeg) ((8 : Int32).toNatClampNeg))) 13 (va_cpy (T.1.2 13) (L.1.2 13) ((0 : Int32).toNatClampNeg) ((0 : Int32).toNatClampNeg) ((8 : Int32).toNatClampNeg)))) mo) H := hP
  have hD : va_D A (zW E KL kc on rw rd ft tr (va_up (va_up la i T) j (zLA (zLA (zLA (zLA (zLi (zLi (zLi (zLi (zLi (zLi (zLi (zLi (zLi L 0 (T.1.1 0)) 1 (T.1.1 1)) 2 (T.1.1 2)) 3 (T.1.1 3)) 4 (T.1.1 4)) 5 (T.1.1 5)) 6 (T.1.1 6)) 7 (T.1.1 7)) 8 (T.1.1 8)) 9 (va_cpy (T.1.2 9) (L.1.2 9) ((0 : Int32).toNatClampNeg) ((0 : Int32).toNatClampNeg) ((8 : Int32).toNatClampNeg))) 10 (va_cpy (T.1.2 10) (L.1.2 10) ((0 : Int32).toNatClampNeg) ((0 : Int32).toNatClampNeg) ((8 : Int32).toNatClampNeg))) 12 (va_cpy (T.1.2 12) (L.1.2 12) ((0 : Int32).toNatClampNeg) ((0 : Int32).toNatClampNeg) ((8 : Int32).toNatClampNeg))) 13 (va_cpy (T.1.2 13) (L.1.2 13) ((0 : Int32).toNatClampNeg) ((0 : Int32).toNatClampNeg) ((8 : Int32).toNatClampNeg)))) mo) := hD
  refine lv_aload_n hx hb dX4_takeFrom_132 rfl (lv_at hl 1 rfl) ?_
  rw [zup_comm _ (hne.symm)] at hP hD
  refine va_get (D := D) (ci := 3) (v := .ref (E.1 (13 + 11 * i + 6))) (C := RX4) (T := TX4) (N := 19) hx hb hts (zi iX4) hown hK hP (13 + 11 * i) (zg_L _ _ _ _ _ _ _ _ _ _ hi _) rfl 14 (by decide) (zh hts k0_133) (fun _ h9 => h9) rfl dX4_takeFrom_133 ?_
  refine lv_iconst (v := 0) hx hb dX4_takeFrom_136 (by decide) ?_
  refine lv_aload_n hx hb dX4_takeFrom_137 rfl (lv_at hl 0 rfl) ?_
  rw [zup_comm _ (hne)] at hP hD
  refine va_get (D := D) (ci := 3) (v := .ref (E.1 (13 + 11 * j + 6))) (C := RX4) (T := TX4) (N := 19) hx hb hts (zi iX4) hown hK hP (13 + 11 * j) (zg_L _ _ _ _ _ _ _ _ _ _ hj _) rfl 14 (by decide) (zh hts k0_133) (fun _ h9 => h9) rfl dX4_takeFrom_138 ?_
  refine lv_iconst (v := 0) hx hb dX4_takeFrom_141 (by decide) ?_
  refine lv_bipush (v := 48) hx hb dX4_takeFrom_142 (by decide) ?_
  refine va_copyi hx hb (hml.trans hl.1.symm) (own := RX4) hown (zh hts k3_126) (zh hts k1_73) (zh hts k1_72) (zh hts k0_9) hK hP hD hS (13 + 11 * i + 6) (13 + 11 * j + 6) 1 1 ((congrArg (fun w : Nat → zLS => (zW E KL kc on rw rd ft tr w mo)[13 + 11 * i + 6]?) (zup_comm _ (hne.symm) _ _)).trans (zg_L_14 _ _ _ _ _ _ _ _ _ _ hi _)) (zg_L_14 _ _ _ _ _ _ _ _ _ _ hj _) rfl rfl rfl (by decide) (by decide) (by decide) (by decide) (by decide) (fun _ _ => rfl) (Nat.le_of_ble_eq_true rfl) (Nat.le_of_ble_eq_true rfl) dX4_takeFrom_144 (fun H locs hP hD hS => ?_)
  rw [zs_L_14 _ _ _ _ _ _ _ _ _ _ hj] at hP hD
  have hP : va_P D vwCl (zW E KL kc on rw rd ft tr (va_up (va_up la i T) j (zLA (zLA (zLA (zLA (zLA (zLi (zLi (zLi (zLi (zLi (zLi (zLi (zLi (zLi L 0 (T.1.1 0)) 1 (T.1.1 1)) 2 (T.1.1 2)) 3 (T.1.1 3)) 4 (T.1.1 4)) 5 (T.1.1 5)) 6 (T.1.1 6)) 7 (T.1.1 7)) 8 (T.1.1 8)) 9 (va_cpy (T.1.2 9) (L.1.2 9) ((0 : Int32).toNatClampNeg) ((0 : Int32).toNatClampNeg) ((8 : Int32).toNatClampNeg))) 10 (va_cpy (T.1.2 10) (L.1.2 10) ((0 : Int32).toNatClampNeg) ((0 : Int32).toNatClampNeg) ((8 : Int32).toNatClampNeg))) 12 (va_cpy (T.1.2 12) (L.1.2 12) ((0 : Int32).toNatClampNeg) ((0 : Int32).toNatClampNeg) ((8 : Int32).toNatClampNeg))) 13 (va_cpy (T.1.2 13) (L.1.2 13) ((0 : Int32).toNatClampNeg) ((0 : Int32).toNatClampNeg) ((8 : Int32).toNatClampNeg))) 14 (va_cpy (T.1.2 14) (L.1.2 14) ((0 : Int32).toNatClampNeg) ((0 : Int32).toNatClampNeg) ((48 : Int32).toNatClampNeg)))) mo) H := hP
  have hD : va_D A (zW E KL kc on rw rd ft tr (va_up (va_up la i T) j (zLA (zLA (zLA (zLA (zLA (zLi (zLi (zLi (zLi (zLi (zLi (zLi (zLi (zLi L 0 (T.1.1 0)) 1 (T.1.1 1)) 2 (T.1.1 2)) 3 (T.1.1 3)) 4 (T.1.1 4)) 5 (T.1.1 5)) 6 (T.1.1 6)) 7 (T.1.1 7)) 8 (T.1.1 8)) 9 (va_cpy (T.1.2 9) (L.1.2 9) ((0 : Int32).toNatClampNeg) ((0 : Int32).toNatClampNeg) ((8 : Int32).toNatClampNeg))) 10 (va_cpy (T.1.2 10) (L.1.2 10) ((0 : Int32).toNatClampNeg) ((0 : Int32).toNatClampNeg) ((8 : Int32).toNatClampNeg))) 12 (va_cpy (T.1.2 12) (L.1.2 12) ((0 : Int32).toNatClampNeg) ((0 : Int32).toNatClampNeg) ((8 : Int32).toNatClampNeg))) 13 (va_cpy (T.1.2 13) (L.1.2 13) ((0 : Int32).toNatClampNeg) ((0 : Int32).toNatClampNeg) ((8 : Int32).toNatClampNeg))) 14 (va_cpy (T.1.2 14) (L.1.2 14) ((0 : Int32).toNatClampNeg) ((0 : Int32).toNatClampNeg) ((48 : Int32).toNatClampNeg)))) mo) := hD
  refine lv_aload_n hx hb dX4_takeFrom_147 rfl (lv_at hl 1 rfl) ?_
  rw [zup_comm _ (hne.symm)] at hP hD
  refine va_get (D := D) (ci := 3) (v := .ref (E.1 (13 + 11 * i + 7))) (C := RX4) (T := TX4) (N := 19) hx hb hts (zi iX4) hown hK hP (13 + 11 * i) (zg_L _ _ _ _ _ _ _ _ _ _ hi _) rfl 15 (by decide) (zh hts k0_134) (fun _ h9 => h9) rfl dX4_takeFrom_148 ?_
  refine lv_iconst (v := 0) hx hb dX4_takeFrom_151 (by decide) ?_
  refine lv_aload_n hx hb dX4_takeFrom_152 rfl (lv_at hl 0 rfl) ?_
  rw [zup_comm _ (hne)] at hP hD
  refine va_get (D := D) (ci := 3) (v := .ref (E.1 (13 + 11 * j + 7))) (C := RX4) (T := TX4) (N := 19) hx hb hts (zi iX4) hown hK hP (13 + 11 * j) (zg_L _ _ _ _ _ _ _ _ _ _ hj _) rfl 15 (by decide) (zh hts k0_134) (fun _ h9 => h9) rfl dX4_takeFrom_153 ?_
  refine lv_iconst (v := 0) hx hb dX4_takeFrom_156 (by decide) ?_
  refine lv_bipush (v := 6) hx hb dX4_takeFrom_157 (by decide) ?_
  refine va_copyi hx hb (hml.trans hl.1.symm) (own := RX4) hown (zh hts k3_126) (zh hts k1_73) (zh hts k1_72) (zh hts k0_9) hK hP hD hS (13 + 11 * i + 7) (13 + 11 * j + 7) 1 1 ((congrArg (fun w : Nat → zLS => (zW E KL kc on rw rd ft tr w mo)[13 + 11 * i + 7]?) (zup_comm _ (hne.symm) _ _)).trans (zg_L_15 _ _ _ _ _ _ _ _ _ _ hi _)) (zg_L_15 _ _ _ _ _ _ _ _ _ _ hj _) rfl rfl rfl (by decide) (by decide) (by decide) (by decide) (by decide) (fun _ _ => rfl) (Nat.le_of_ble_eq_true rfl) (Nat.le_of_ble_eq_true rfl) dX4_takeFrom_159 (fun H locs hP hD hS => ?_)
  rw [zs_L_15 _ _ _ _ _ _ _ _ _ _ hj] at hP hD
  have hP : va_P D vwCl (zW E KL kc on rw rd ft tr (va_up (va_up la i T) j (zLA (zLA (zLA (zLA (zLA (zLA (zLi (zLi (zLi (zLi (zLi (zLi (zLi (zLi (zLi L 0 (T.1.1 0)) 1 (T.1.1 1)) 2 (T.1.1 2)) 3 (T.1.1 3)) 4 (T.1.1 4)) 5 (T.1.1 5)) 6 (T.1.1 6)) 7 (T.1.1 7)) 8 (T.1.1 8)) 9 (va_cpy (T.1.2 9) (L.1.2 9) ((0 : Int32).toNatClampNeg) ((0 : Int32).toNatClampNeg) ((8 : Int32).toNatClampNeg))) 10 (va_cpy (T.1.2 10) (L.1.2 10) ((0 : Int32).toNatClampNeg) ((0 : Int32).toNatClampNeg) ((8 : Int32).toNatClampNeg))) 12 (va_cpy (T.1.2 12) (L.1.2 12) ((0 : Int32).toNatClampNeg) ((0 : Int32).toNatClampNeg) ((8 : Int32).toNatClampNeg))) 13 (va_cpy (T.1.2 13) (L.1.2 13) ((0 : Int32).toNatClampNeg) ((0 : Int32).toNatClampNeg) ((8 : Int32).toNatClampNeg))) 14 (va_cpy (T.1.2 14) (L.1.2 14) ((0 : Int32).toNatClampNeg) ((0 : Int32).toNatClampNeg) ((48 : Int32).toNatClampNeg))) 15 (va_cpy (T.1.2 15) (L.1.2 15) ((0 : Int32).toNatClampNeg) ((0 : Int32).toNatClampNeg) ((6 : Int32).toNatClampNeg)))) mo) H := hP
  have hD : va_D A (zW E KL kc on rw rd ft tr (va_up (va_up la i T) j (zLA (zLA (zLA (zLA (zLA (zLA (zLi (zLi (zLi (zLi (zLi (zLi (zLi (zLi (zLi L 0 (T.1.1 0)) 1 (T.1.1 1)) 2 (T.1.1 2)) 3 (T.1.1 3)) 4 (T.1.1 4)) 5 (T.1.1 5)) 6 (T.1.1 6)) 7 (T.1.1 7)) 8 (T.1.1 8)) 9 (va_cpy (T.1.2 9) (L.1.2 9) ((0 : Int32).toNatClampNeg) ((0 : Int32).toNatClampNeg) ((8 : Int32).toNatClampNeg))) 10 (va_cpy (T.1.2 10) (L.1.2 10) ((0 : Int32).toNatClampNeg) ((0 : Int32).toNatClampNeg) ((8 : Int32).toNatClampNeg))) 12 (va_cpy (T.1.2 12) (L.1.2 12) ((0 : Int32).toNatClampNeg) ((0 : Int32).toNatClampNeg) ((8 : Int32).toNatClampNeg))) 13 (va_cpy (T.1.2 13) (L.1.2 13) ((0 : Int32).toNatClampNeg) ((0 : Int32).toNatClampNeg) ((8 : Int32).toNatClampNeg))) 14 (va_cpy (T.1.2 14) (L.1.2 14) ((0 : Int32).toNatClampNeg) ((0 : Int32).toNatClampNeg) ((48 : Int32).toNatClampNeg))) 15 (va_cpy (T.1.2 15) (L.1.2 15) ((0 : Int32).toNatClampNeg) ((0 : Int32).toNatClampNeg) ((6 : Int32).toNatClampNeg)))) mo) := hD
  refine lv_aload_n hx hb dX4_takeFrom_162 rfl (lv_at hl 1 rfl) ?_
  rw [zup_comm _ (hne.symm)] at hP hD
  refine va_get (D := D) (ci := 3) (v := .ref (E.1 (13 + 11 * i + 8))) (C := RX4) (T := TX4) (N := 19) hx hb hts (zi iX4) hown hK hP (13 + 11 * i) (zg_L _ _ _ _ _ _ _ _ _ _ hi _) rfl 16 (by decide) (zh hts k0_135) (fun _ h9 => h9) rfl dX4_takeFrom_163 ?_
  refine lv_iconst (v := 0) hx hb dX4_takeFrom_166 (by decide) ?_
  refine lv_aload_n hx hb dX4_takeFrom_167 rfl (lv_at hl 0 rfl) ?_
  rw [zup_comm _ (hne)] at hP hD
  refine va_get (D := D) (ci := 3) (v := .ref (E.1 (13 + 11 * j + 8))) (C := RX4) (T := TX4) (N := 19) hx hb hts (zi iX4) hown hK hP (13 + 11 * j) (zg_L _ _ _ _ _ _ _ _ _ _ hj _) rfl 16 (by decide) (zh hts k0_135) (fun _ h9 => h9) rfl dX4_takeFrom_168 ?_
  refine lv_iconst (v := 0) hx hb dX4_takeFrom_171 (by decide) ?_
  refine lv_bipush (v := 6) hx hb dX4_takeFrom_172 (by decide) ?_
  refine va_copyi hx hb (hml.trans hl.1.symm) (own := RX4) hown (zh hts k3_126) (zh hts k1_73) (zh hts k1_72) (zh hts k0_9) hK hP hD hS (13 + 11 * i + 8) (13 + 11 * j + 8) 1 1 ((congrArg (fun w : Nat → zLS => (zW E KL kc on rw rd ft tr w mo)[13 + 11 * i + 8]?) (zup_comm _ (hne.symm) _ _)).trans (zg_L_16 _ _ _ _ _ _ _ _ _ _ hi _)) (zg_L_16 _ _ _ _ _ _ _ _ _ _ hj _) rfl rfl rfl (by decide) (by decide) (by decide) (by decide) (by decide) (fun _ _ => rfl) (Nat.le_of_ble_eq_true rfl) (Nat.le_of_ble_eq_true rfl) dX4_takeFrom_174 (fun H locs hP hD hS => ?_)
  rw [zs_L_16 _ _ _ _ _ _ _ _ _ _ hj] at hP hD
  have hP : va_P D vwCl (zW E KL kc on rw rd ft tr (va_up (va_up la i T) j (zLA (zLA (zLA (zLA (zLA (zLA (zLA (zLi (zLi (zLi (zLi (zLi (zLi (zLi (zLi (zLi L 0 (T.1.1 0)) 1 (T.1.1 1)) 2 (T.1.1 2)) 3 (T.1.1 3)) 4 (T.1.1 4)) 5 (T.1.1 5)) 6 (T.1.1 6)) 7 (T.1.1 7)) 8 (T.1.1 8)) 9 (va_cpy (T.1.2 9) (L.1.2 9) ((0 : Int32).toNatClampNeg) ((0 : Int32).toNatClampNeg) ((8 : Int32).toNatClampNeg))) 10 (va_cpy (T.1.2 10) (L.1.2 10) ((0 : Int32).toNatClampNeg) ((0 : Int32).toNatClampNeg) ((8 : Int32).toNatClampNeg))) 12 (va_cpy (T.1.2 12) (L.1.2 12) ((0 : Int32).toNatClampNeg) ((0 : Int32).toNatClampNeg) ((8 : Int32).toNatClampNeg))) 13 (va_cpy (T.1.2 13) (L.1.2 13) ((0 : Int32).toNatClampNeg) ((0 : Int32).toNatClampNeg) ((8 : Int32).toNatClampNeg))) 14 (va_cpy (T.1.2 14) (L.1.2 14) ((0 : Int32).toNatClampNeg) ((0 : Int32).toNatClampNeg) ((48 : Int32).toNatClampNeg))) 15 (va_cpy (T.1.2 15) (L.1.2 15) ((0 : Int32).toNatClampNeg) ((0 : Int32).toNatClampNeg) ((6 : Int32).toNatClampNeg))) 16 (va_cpy (T.1.2 16) (L.1.2 16) ((0 : Int32).toNatClampNeg) ((0 : Int32).toNatClampNeg) ((6 : Int32).toNatClampNeg)))) mo) H := hP
  have hD : va_D A (zW E KL kc on rw rd ft tr (va_up (va_up la i T) j (zLA (zLA (zLA (zLA (zLA (zLA (zLA (zLi (zLi (zLi (zLi (zLi (zLi (zLi (zLi (zLi L 0 (T.1.1 0)) 1 (T.1.1 1)) 2 (T.1.1 2)) 3 (T.1.1 3)) 4 (T.1.1 4)) 5 (T.1.1 5)) 6 (T.1.1 6)) 7 (T.1.1 7)) 8 (T.1.1 8)) 9 (va_cpy (T.1.2 9) (L.1.2 9) ((0 : Int32).toNatClampNeg) ((0 : Int32).toNatClampNeg) ((8 : Int32).toNatClampNeg))) 10 (va_cpy (T.1.2 10) (L.1.2 10) ((0 : Int32).toNatClampNeg) ((0 : Int32).toNatClampNeg) ((8 : Int32).toNatClampNeg))) 12 (va_cpy (T.1.2 12) (L.1.2 12) ((0 : Int32).toNatClampNeg) ((0 : Int32).toNatClampNeg) ((8 : Int32).toNatClampNeg))) 13 (va_cpy (T.1.2 13) (L.1.2 13) ((0 : Int32).toNatClampNeg) ((0 : Int32).toNatClampNeg) ((8 : Int32).toNatClampNeg))) 14 (va_cpy (T.1.2 14) (L.1.2 14) ((0 : Int32).toNatClampNeg) ((0 : Int32).toNatClampNeg) ((48 : Int32).toNatClampNeg))) 15 (va_cpy (T.1.2 15) (L.1.2 15) ((0 : Int32).toNatClampNeg) ((0 : Int32).toNatClampNeg) ((6 : Int32).toNatClampNeg))) 16 (va_cpy (T.1.2 16) (L.1.2 16) ((0 : Int32).toNatClampNeg) ((0 : Int32).toNatClampNeg) ((6 : Int32).toNatClampNeg)))) mo) := hD
  refine lv_aload_n hx hb dX4_takeFrom_177 rfl (lv_at hl 1 rfl) ?_
  rw [zup_comm _ (hne.symm)] at hP hD
  refine va_get (D := D) (ci := 3) (v := .ref (E.1 (13 + 11 * i + 9))) (C := RX4) (T := TX4) (N := 19) hx hb hts (zi iX4) hown hK hP (13 + 11 * i) (zg_L _ _ _ _ _ _ _ _ _ _ hi _) rfl 17 (by decide) (zh hts k0_136) (fun _ h9 => h9) rfl dX4_takeFrom_178 ?_
  refine lv_iconst (v := 0) hx hb dX4_takeFrom_181 (by decide) ?_
  refine lv_aload_n hx hb dX4_takeFrom_182 rfl (lv_at hl 0 rfl) ?_
  rw [zup_comm _ (hne)] at hP hD
  refine va_get (D := D) (ci := 3) (v := .ref (E.1 (13 + 11 * j + 9))) (C := RX4) (T := TX4) (N := 19) hx hb hts (zi iX4) hown hK hP (13 + 11 * j) (zg_L _ _ _ _ _ _ _ _ _ _ hj _) rfl 17 (by decide) (zh hts k0_136) (fun _ h9 => h9) rfl dX4_takeFrom_183 ?_
  refine lv_iconst (v := 0) hx hb dX4_takeFrom_186 (by decide) ?_
  refine lv_bipush (v := 8) hx hb dX4_takeFrom_187 (by decide) ?_
  refine va_copyi hx hb (hml.trans hl.1.symm) (own := RX4) hown (zh hts k3_126) (zh hts k1_73) (zh hts k1_72) (zh hts k0_9) hK hP hD hS (13 + 11 * i + 9) (13 + 11 * j + 9) 1 1 ((congrArg (fun w : Nat → zLS => (zW E KL kc on rw rd ft tr w mo)[13 + 11 * i + 9]?) (zup_comm _ (hne.symm) _ _)).trans (zg_L_17 _ _ _ _ _ _ _ _ _ _ hi _)) (zg_L_17 _ _ _ _ _ _ _ _ _ _ hj _) rfl rfl rfl (by decide) (by decide) (by decide) (by decide) (by decide) (fun _ _ => rfl) (Nat.le_of_ble_eq_true rfl) (Nat.le_of_ble_eq_true rfl) dX4_takeFrom_189 (fun H locs hP hD hS => ?_)
  rw [zs_L_17 _ _ _ _ _ _ _ _ _ _ hj] at hP hD
  have hP : va_P D vwCl (zW E KL kc on rw rd ft tr (va_up (va_up la i T) j (zLA (zLA (zLA (zLA (zLA (zLA (zLA (zLA (zLi (zLi (zLi (zLi (zLi (zLi (zLi (zLi (zLi L 0 (T.1.1 0)) 1 (T.1.1 1)) 2 (T.1.1 2)) 3 (T.1.1 3)) 4 (T.1.1 4)) 5 (T.1.1 5)) 6 (T.1.1 6)) 7 (T.1.1 7)) 8 (T.1.1 8)) 9 (va_cpy (T.1.2 9) (L.1.2 9) ((0 : Int32).toNatClampNeg) ((0 : Int32).toNatClampNeg) ((8 : Int32).toNatClampNeg))) 10 (va_cpy (T.1.2 10) (L.1.2 10) ((0 : Int32).toNatClampNeg) ((0 : Int32).toNatClampNeg) ((8 : Int32).toNatClampNeg))) 12 (va_cpy (T.1.2 12) (L.1.2 12) ((0 : Int32).toNatClampNeg) ((0 : Int32).toNatClampNeg) ((8 : Int32).toNatClampNeg))) 13 (va_cpy (T.1.2 13) (L.1.2 13) ((0 : Int32).toNatClampNeg) ((0 : Int32).toNatClampNeg) ((8 : Int32).toNatClampNeg))) 14 (va_cpy (T.1.2 14) (L.1.2 14) ((0 : Int32).toNatClampNeg) ((0 : Int32).toNatClampNeg) ((48 : Int32).toNatClampNeg))) 15 (va_cpy (T.1.2 15) (L.1.2 15) ((0 : Int32).toNatClampNeg) ((0 : Int32).toNatClampNeg) ((6 : Int32).toNatClampNeg))) 16 (va_cpy (T.1.2 16) (L.1.2 16) ((0 : Int32).toNatClampNeg) ((0 : Int32).toNatClampNeg) ((6 : Int32).toNatClampNeg))) 17 (va_cpy (T.1.2 17) (L.1.2 17) ((0 : Int32).toNatClampNeg) ((0 : Int32).toNatClampNeg) ((8 : Int32).toNatClampNeg)))) mo) H := hP
  have hD : va_D A (zW E KL kc on rw rd ft tr (va_up (va_up la i T) j (zLA (zLA (zLA (zLA (zLA (zLA (zLA (zLA (zLi (zLi (zLi (zLi (zLi (zLi (zLi (zLi (zLi L 0 (T.1.1 0)) 1 (T.1.1 1)) 2 (T.1.1 2)) 3 (T.1.1 3)) 4 (T.1.1 4)) 5 (T.1.1 5)) 6 (T.1.1 6)) 7 (T.1.1 7)) 8 (T.1.1 8)) 9 (va_cpy (T.1.2 9) (L.1.2 9) ((0 : Int32).toNatClampNeg) ((0 : Int32).toNatClampNeg) ((8 : Int32).toNatClampNeg))) 10 (va_cpy (T.1.2 10) (L.1.2 10) ((0 : Int32).toNatClampNeg) ((0 : Int32).toNatClampNeg) ((8 : Int32).toNatClampNeg))) 12 (va_cpy (T.1.2 12) (L.1.2 12) ((0 : Int32).toNatClampNeg) ((0 : Int32).toNatClampNeg) ((8 : Int32).toNatClampNeg))) 13 (va_cpy (T.1.2 13) (L.1.2 13) ((0 : Int32).toNatClampNeg) ((0 : Int32).toNatClampNeg) ((8 : Int32).toNatClampNeg))) 14 (va_cpy (T.1.2 14) (L.1.2 14) ((0 : Int32).toNatClampNeg) ((0 : Int32).toNatClampNeg) ((48 : Int32).toNatClampNeg))) 15 (va_cpy (T.1.2 15) (L.1.2 15) ((0 : Int32).toNatClampNeg) ((0 : Int32).toNatClampNeg) ((6 : Int32).toNatClampNeg))) 16 (va_cpy (T.1.2 16) (L.1.2 16) ((0 : Int32).toNatClampNeg) ((0 : Int32).toNatClampNeg) ((6 : Int32).toNatClampNeg))) 17 (va_cpy (T.1.2 17) (L.1.2 17) ((0 : Int32).toNatClampNeg) ((0 : Int32).toNatClampNeg) ((8 : Int32).toNatClampNeg)))) mo) := hD
  refine lv_aload_n hx hb dX4_takeFrom_192 rfl (lv_at hl 1 rfl) ?_
  rw [zup_comm _ (hne.symm)] at hP hD
  refine va_get (D := D) (ci := 3) (v := .ref (E.1 (13 + 11 * i + 10))) (C := RX4) (T := TX4) (N := 19) hx hb hts (zi iX4) hown hK hP (13 + 11 * i) (zg_L _ _ _ _ _ _ _ _ _ _ hi _) rfl 18 (by decide) (zh hts k0_137) (fun _ h9 => h9) rfl dX4_takeFrom_193 ?_
  refine lv_iconst (v := 0) hx hb dX4_takeFrom_196 (by decide) ?_
  refine lv_aload_n hx hb dX4_takeFrom_197 rfl (lv_at hl 0 rfl) ?_
  rw [zup_comm _ (hne)] at hP hD
  refine va_get (D := D) (ci := 3) (v := .ref (E.1 (13 + 11 * j + 10))) (C := RX4) (T := TX4) (N := 19) hx hb hts (zi iX4) hown hK hP (13 + 11 * j) (zg_L _ _ _ _ _ _ _ _ _ _ hj _) rfl 18 (by decide) (zh hts k0_137) (fun _ h9 => h9) rfl dX4_takeFrom_198 ?_
  refine lv_iconst (v := 0) hx hb dX4_takeFrom_201 (by decide) ?_
  refine lv_bipush (v := 8) hx hb dX4_takeFrom_202 (by decide) ?_
  refine va_copyi hx hb (hml.trans hl.1.symm) (own := RX4) hown (zh hts k3_126) (zh hts k1_73) (zh hts k1_72) (zh hts k0_9) hK hP hD hS (13 + 11 * i + 10) (13 + 11 * j + 10) 1 1 ((congrArg (fun w : Nat → zLS => (zW E KL kc on rw rd ft tr w mo)[13 + 11 * i + 10]?) (zup_comm _ (hne.symm) _ _)).trans (zg_L_18 _ _ _ _ _ _ _ _ _ _ hi _)) (zg_L_18 _ _ _ _ _ _ _ _ _ _ hj _) rfl rfl rfl (by decide) (by decide) (by decide) (by decide) (by decide) (fun _ _ => rfl) (Nat.le_of_ble_eq_true rfl) (Nat.le_of_ble_eq_true rfl) dX4_takeFrom_204 (fun H locs hP hD hS => ?_)
  rw [zs_L_18 _ _ _ _ _ _ _ _ _ _ hj] at hP hD
  have hP : va_P D vwCl (zW E KL kc on rw rd ft tr (va_up (va_up la i T) j (zLA (zLA (zLA (zLA (zLA (zLA (zLA (zLA (zLA (zLi (zLi (zLi (zLi (zLi (zLi (zLi (zLi (zLi L 0 (T.1.1 0)) 1 (T.1.1 1)) 2 (T.1.1 2)) 3 (T.1.1 3)) 4 (T.1.1 4)) 5 (T.1.1 5)) 6 (T.1.1 6)) 7 (T.1.1 7)) 8 (T.1.1 8)) 9 (va_cpy (T.1.2 9) (L.1.2 9) ((0 : Int32).toNatClampNeg) ((0 : Int32).toNatClampNeg) ((8 : Int32).toNatClampNeg))) 10 (va_cpy (T.1.2 10) (L.1.2 10) ((0 : Int32).toNatClampNeg) ((0 : Int32).toNatClampNeg) ((8 : Int32).toNatClampNeg))) 12 (va_cpy (T.1.2 12) (L.1.2 12) ((0 : Int32).toNatClampNeg) ((0 : Int32).toNatClampNeg) ((8 : Int32).toNatClampNeg))) 13 (va_cpy (T.1.2 13) (L.1.2 13) ((0 : Int32).toNatClampNeg) ((0 : Int32).toNatClampNeg) ((8 : Int32).toNatClampNeg))) 14 (va_cpy (T.1.2 14) (L.1.2 14) ((0 : Int32).toNatClampNeg) ((0 : Int32).toNatClampNeg) ((48 : Int32).toNatClampNeg))) 15 (va_cpy (T.1.2 15) (L.1.2 15) ((0 : Int32).toNatClampNeg) ((0 : Int32).toNatClampNeg) ((6 : Int32).toNatClampNeg))) 16 (va_cpy (T.1.2 16) (L.1.2 16) ((0 : Int32).toNatClampNeg) ((0 : Int32).toNatClampNeg) ((6 : Int32).toNatClampNeg))) 17 (va_cpy (T.1.2 17) (L.1.2 17) ((0 : Int32).toNatClampNeg) ((0 : Int32).toNatClampNeg) ((8 : Int32).toNatClampNeg))) 18 (va_cpy (T.1.2 18) (L.1.2 18) ((0 : Int32).toNatClampNeg) ((0 : Int32).toNatClampNeg) ((8 : Int32).toNatClampNeg)))) mo) H := hP
  have hD : va_D A (zW E KL kc on rw rd ft tr (va_up (va_up la i T) j (zLA (zLA (zLA (zLA (zLA (zLA (zLA (zLA (zLA (zLi (zLi (zLi (zLi (zLi (zLi (zLi (zLi (zLi L 0 (T.1.1 0)) 1 (T.1.1 1)) 2 (T.1.1 2)) 3 (T.1.1 3)) 4 (T.1.1 4)) 5 (T.1.1 5)) 6 (T.1.1 6)) 7 (T.1.1 7)) 8 (T.1.1 8)) 9 (va_cpy (T.1.2 9) (L.1.2 9) ((0 : Int32).toNatClampNeg) ((0 : Int32).toNatClampNeg) ((8 : Int32).toNatClampNeg))) 10 (va_cpy (T.1.2 10) (L.1.2 10) ((0 : Int32).toNatClampNeg) ((0 : Int32).toNatClampNeg) ((8 : Int32).toNatClampNeg))) 12 (va_cpy (T.1.2 12) (L.1.2 12) ((0 : Int32).toNatClampNeg) ((0 : Int32).toNatClampNeg) ((8 : Int32).toNatClampNeg))) 13 (va_cpy (T.1.2 13) (L.1.2 13) ((0 : Int32).toNatClampNeg) ((0 : Int32).toNatClampNeg) ((8 : Int32).toNatClampNeg))) 14 (va_cpy (T.1.2 14) (L.1.2 14) ((0 : Int32).toNatClampNeg) ((0 : Int32).toNatClampNeg) ((48 : Int32).toNatClampNeg))) 15 (va_cpy (T.1.2 15) (L.1.2 15) ((0 : Int32).toNatClampNeg) ((0 : Int32).toNatClampNeg) ((6 : Int32).toNatClampNeg))) 16 (va_cpy (T.1.2 16) (L.1.2 16) ((0 : Int32).toNatClampNeg) ((0 : Int32).toNatClampNeg) ((6 : Int32).toNatClampNeg))) 17 (va_cpy (T.1.2 17) (L.1.2 17) ((0 : Int32).toNatClampNeg) ((0 : Int32).toNatClampNeg) ((8 : Int32).toNatClampNeg))) 18 (va_cpy (T.1.2 18) (L.1.2 18) ((0 : Int32).toNatClampNeg) ((0 : Int32).toNatClampNeg) ((8 : Int32).toNatClampNeg)))) mo) := hD
  refine lv_iconst (v := 0) hx hb dX4_takeFrom_207 (by decide) ?_
  refine lv_istore_n (lv' := [(2, .int (0 : Int32)), (0, .ref (E.1 (13 + 11 * j))), (1, .ref (E.1 (13 + 11 * i)))]) hx hb dX4_takeFrom_208 rfl hl (by decide) rfl (fun ls hl => ?_)
  rw [zup_comm _ (hne.symm)] at hP hD
  obtain ⟨o_11, ho_11, hF⟩ := zbd hF
  have kx_1_0 : ∀ (L_12 : zLS), L_12 = o_11 → ∀ (H : Heap) (locs : List Loc) (ls : Array Slot), va_P D vwCl (zW E KL kc on rw rd ft tr (va_up (va_up la j L_12) i T) mo) H → va_D A (zW E KL kc on rw rd ft tr (va_up (va_up la j L_12) i T) mo) → va_S A s.heap H locs → lv_has ls 3 [] → W p l e ({ frames := 1, cells := 0, slots := 0, locals := 60 } : Room) s m args below meth c H locs 0 0 Q (F0 m 233 ls []) := by
    intro L_12 ho H locs ls hP hD hS hl
    subst ho
    obtain rfl := Option.some.inj hF
    exact hend _ _ _ _ hP hD hS dX4_takeFrom_233
  have lp_1 : ∀ (T_2 : zLS) (n : Nat) (x2_1 : Int32) (L_3 : zLS) (o : zLS), fX4_takeFrom_l1 N KL kc T_2 n x2_1 L_3 = some o → (∀ (L_12 : zLS), L_12 = o → ∀ (H : Heap) (locs : List Loc) (ls : Array Slot), va_P D vwCl (zW E KL kc on rw rd ft tr (va_up (va_up la j L_12) i T_2) mo) H → va_D A (zW E KL kc on rw rd ft tr (va_up (va_up la j L_12) i T_2) mo) → va_S A s.heap H locs → lv_has ls 3 [] → W p l e ({ frames := 1, cells := 0, slots := 0, locals := 60 } : Room) s m args below meth c H locs 0 0 Q (F0 m 233 ls [])) → ∀ (H : Heap) (locs : List Loc) (ls : Array Slot), va_P D vwCl (zW E KL kc on rw rd ft tr (va_up (va_up la j L_3) i T_2) mo) H → va_D A (zW E KL kc on rw rd ft tr (va_up (va_up la j L_3) i T_2) mo) → va_S A s.heap H locs → lv_has ls 3 [(0, .ref (E.1 (13 + 11 * j))), (1, .ref (E.1 (13 + 11 * i))), (2, .int x2_1)] → W p l e ({ frames := 1, cells := 0, slots := 0, locals := 60 } : Room) s m args below meth c H locs 0 0 Q (F0 m 209 ls []) := by
    intro T_2 n
    induction n with
    | zero =>
      intro x2_1 L_3 o hF
      exact znone hF
    | succ n ih =>
      intro x2_1 L_3 o hF kx_1_0 H locs ls hP hD hS hl
      rw [fX4_takeFrom_l1] at hF
      refine lv_iload_n hx hb dX4_takeFrom_209 rfl (lv_at hl 2 rfl) ?_
      refine lv_bipush (v := 6) hx hb dX4_takeFrom_210 (by decide) ?_
      refine lv_icmp_ge (tgt := 233) hx hb dX4_takeFrom_212 (by decide) (fun c_4 => ?_) (fun c_4 => ?_)
      · have hF := zit c_4 hF
        exact kx_1_0 L_3 (Option.some.inj hF) _ _ _ hP hD hS (lv_sub hl [] rfl)
      · have hF := zif c_4 hF
        refine lv_aload_n hx hb dX4_takeFrom_215 rfl (lv_at hl 0 rfl) ?_
        rw [zup_comm _ (hne)] at hP hD
        refine va_get (D := D) (ci := 3) (v := .ref (E.1 (13 + 11 * j + 3))) (C := RX4) (T := TX4) (N := 19) hx hb hts (zi iX4) hown hK hP (13 + 11 * j) (zg_L _ _ _ _ _ _ _ _ _ _ hj _) rfl 11 (by decide) (zh hts k0_130) (fun _ h9 => h9) rfl dX4_takeFrom_216 ?_
        refine lv_iload_n hx hb dX4_takeFrom_219 rfl (lv_at hl 2 rfl) ?_
        refine lv_aload_n hx hb dX4_takeFrom_220 rfl (lv_at hl 1 rfl) ?_
        rw [zup_comm _ (hne.symm)] at hP hD
        refine va_get (D := D) (ci := 3) (v := .ref (E.1 (13 + 11 * i + 3))) (C := RX4) (T := TX4) (N := 19) hx hb hts (zi iX4) hown hK hP (13 + 11 * i) (zg_L _ _ _ _ _ _ _ _ _ _ hi _) rfl 11 (by decide) (zh hts k0_130) (fun _ h9 => h9) rfl dX4_takeFrom_221 ?_
        refine lv_iload_n hx hb dX4_takeFrom_224 rfl (lv_at hl 2 rfl) ?_
        obtain ⟨g_5, hF⟩ := zgd hF
        refine va_aldq (C := RX3) hx hb hK hP (13 + 11 * i + 3) 3 (zg_L_11 _ _ _ _ _ _ _ _ _ _ hi _) rfl g_5 dX4_takeFrom_225 ?_
        cases e_8 : T_2.2 x2_1.toNatClampNeg with
        | none =>
          rw [e_8] at hF
          rw [zup_comm _ (hne)] at hP hD
          obtain ⟨g_9, hF⟩ := zgd hF
          refine va_astqN (C := RX3) hx hb hK hP hD hS (13 + 11 * j + 3) 3 (zg_L_11 _ _ _ _ _ _ _ _ _ _ hj _) rfl g_9 dX4_takeFrom_226 (fun H locs hP hD hS => ?_)
          rw [zs_L_11 _ _ _ _ _ _ _ _ _ _ hj] at hP hD
          have hP : va_P D vwCl (zW E KL kc on rw rd ft tr (va_up (va_up la i T_2) j (zLw L_3 (va_up L_3.2 x2_1.toNatClampNeg none))) mo) H := hP
          have hD : va_D A (zW E KL kc on rw rd ft tr (va_up (va_up la i T_2) j (zLw L_3 (va_up L_3.2 x2_1.toNatClampNeg none))) mo) := hD
          refine lv_iinc (v := x2_1 + (1 : Int32)) (lv' := [(2, .int (x2_1 + (1 : Int32))), (0, .ref (E.1 (13 + 11 * j))), (1, .ref (E.1 (13 + 11 * i)))]) hx hb dX4_takeFrom_227 hl (k := 2) rfl rfl (by decide) rfl (fun ls hl => ?_)
          refine lv_goto (tgt := 209) hx hb dX4_takeFrom_230 (by decide) ?_
          rw [zup_comm _ (hne.symm)] at hP hD
          exact ih (x2_1 + (1 : Int32)) (zLw L_3 (va_up L_3.2 x2_1.toNatClampNeg none)) _ hF kx_1_0 _ _ _ hP hD hS (lv_sub hl [1, 2, 0] rfl)
        | some a_6 =>
          rw [e_8] at hF
          obtain ⟨k_7, hF⟩ := zgd hF
          have k_7 := Decidable.not_not.mp k_7
          have km_6 := k_7.1
          have k_7 := k_7.2
          rw [zup_comm _ (hne)] at hP hD
          obtain ⟨g_10, hF⟩ := zgd hF
          refine va_astqM (E := RX3) hx hb hK hP hD hS (13 + 11 * j + 3) 3 (zg_L_11 _ _ _ _ _ _ _ _ _ _ hj _) rfl (zAny hE.2.2.2.2.1 hK hP km_6 (by omega)) g_10 dX4_takeFrom_226 (fun H locs hP hD hS => ?_)
          rw [zs_L_11 _ _ _ _ _ _ _ _ _ _ hj] at hP hD
          have hP : va_P D vwCl (zW E KL kc on rw rd ft tr (va_up (va_up la i T_2) j (zLw L_3 (va_up L_3.2 x2_1.toNatClampNeg (some a_6)))) mo) H := hP
          have hD : va_D A (zW E KL kc on rw rd ft tr (va_up (va_up la i T_2) j (zLw L_3 (va_up L_3.2 x2_1.toNatClampNeg (some a_6)))) mo) := hD
          refine lv_iinc (v := x2_1 + (1 : Int32)) (lv' := [(2, .int (x2_1 + (1 : Int32))), (0, .ref (E.1 (13 + 11 * j))), (1, .ref (E.1 (13 + 11 * i)))]) hx hb dX4_takeFrom_227 hl (k := 2) rfl rfl (by decide) rfl (fun ls hl => ?_)
          refine lv_goto (tgt := 209) hx hb dX4_takeFrom_230 (by decide) ?_
          rw [zup_comm _ (hne.symm)] at hP hD
          exact ih (x2_1 + (1 : Int32)) (zLw L_3 (va_up L_3.2 x2_1.toNatClampNeg (some a_6))) _ hF kx_1_0 _ _ _ hP hD hS (lv_sub hl [1, 2, 0] rfl)
  exact lp_1 T N (0 : Int32) (zLA (zLA (zLA (zLA (zLA (zLA (zLA (zLA (zLA (zLi (zLi (zLi (zLi (zLi (zLi (zLi (zLi (zLi L 0 (T.1.1 0)) 1 (T.1.1 1)) 2 (T.1.1 2)) 3 (T.1.1 3)) 4 (T.1.1 4)) 5 (T.1.1 5)) 6 (T.1.1 6)) 7 (T.1.1 7)) 8 (T.1.1 8)) 9 (va_cpy (T.1.2 9) (L.1.2 9) ((0 : Int32).toNatClampNeg) ((0 : Int32).toNatClampNeg) ((8 : Int32).toNatClampNeg))) 10 (va_cpy (T.1.2 10) (L.1.2 10) ((0 : Int32).toNatClampNeg) ((0 : Int32).toNatClampNeg) ((8 : Int32).toNatClampNeg))) 12 (va_cpy (T.1.2 12) (L.1.2 12) ((0 : Int32).toNatClampNeg) ((0 : Int32).toNatClampNeg) ((8 : Int32).toNatClampNeg))) 13 (va_cpy (T.1.2 13) (L.1.2 13) ((0 : Int32).toNatClampNeg) ((0 : Int32).toNatClampNeg) ((8 : Int32).toNatClampNeg))) 14 (va_cpy (T.1.2 14) (L.1.2 14) ((0 : Int32).toNatClampNeg) ((0 : Int32).toNatClampNeg) ((48 : Int32).toNatClampNeg))) 15 (va_cpy (T.1.2 15) (L.1.2 15) ((0 : Int32).toNatClampNeg) ((0 : Int32).toNatClampNeg) ((6 : Int32).toNatClampNeg))) 16 (va_cpy (T.1.2 16) (L.1.2 16) ((0 : Int32).toNatClampNeg) ((0 : Int32).toNatClampNeg) ((6 : Int32).toNatClampNeg))) 17 (va_cpy (T.1.2 17) (L.1.2 17) ((0 : Int32).toNatClampNeg) ((0 : Int32).toNatClampNeg) ((8 : Int32).toNatClampNeg))) 18 (va_cpy (T.1.2 18) (L.1.2 18) ((0 : Int32).toNatClampNeg) ((0 : Int32).toNatClampNeg) ((8 : Int32).toNatClampNeg))) _ ho_11 kx_1_0 _ _ _ hP hD hS (lv_sub hl [1, 2, 0] rfl)
def fX4_valueBetween (N : Nat) (L : zLS) (x1 : Int32) (x2 : Int32) (x3 : Int32) : Option Int32 :=
  if x1 < 0 then
    some (0 : Int32)
  else
    if x2 < 0 then
      some (0 : Int32)
    else
      if (8 : Int32) ≤ x1 then
        some (0 : Int32)
      else
        if x2 < (8 : Int32) then
          if x2 < 0 ∨ 8 ≤ x2.toNatClampNeg then none else
          if x1 < 0 ∨ 8 ≤ x1.toNatClampNeg then none else
          if 0 < ((L.1.2 9 x2.toNatClampNeg) - (L.1.2 9 x1.toNatClampNeg)) then
            if x1 < 0 ∨ 8 ≤ x1.toNatClampNeg then none else
            if x2 < 0 ∨ 8 ≤ x2.toNatClampNeg then none else
            if x1 < 0 ∨ 8 ≤ x1.toNatClampNeg then none else
            if x1 < 0 ∨ 8 ≤ x1.toNatClampNeg then none else
            if ((L.1.2 9 x2.toNatClampNeg) - (L.1.2 9 x1.toNatClampNeg)) = 0 then none else
            some ((L.1.2 10 x1.toNatClampNeg) + ((((L.1.2 10 x2.toNatClampNeg) - (L.1.2 10 x1.toNatClampNeg)) * (x3 - (L.1.2 9 x1.toNatClampNeg))) / ((L.1.2 9 x2.toNatClampNeg) - (L.1.2 9 x1.toNatClampNeg))))
          else
            if x1 < 0 ∨ 8 ≤ x1.toNatClampNeg then none else
            some (L.1.2 10 x1.toNatClampNeg)
        else
          some (0 : Int32)
set_option maxHeartbeats 4000000 in
set_option maxRecDepth 100000 in
theorem qX4_valueBetween (l : Launch) (D : va_G) (E : zE) (KL : List Nat) (kc : Nat → zKC) (on : zNS) (rw rd ft tr : zOS) (la : Nat → zLS) (mo : zMS) (j : Nat) (hj : j < 5) (L : zLS) (N sz : Nat) (x1 : Int32) (x2 : Int32) (x3 : Int32) (out : Int32) (hF : fX4_valueBetween N L x1 x2 x3 = some out) : zCi l yX4_valueBetween zwX4_valueBetween ({ frames := 0, cells := 0, slots := 0, locals := 0 }) [.ref (E.1 (13 + 11 * j)), .int x1, .int x2, .int x3] D E sz (zW E KL kc on rw rd ft tr (va_up la j L) mo) (zW E KL kc on rw rd ft tr (va_up la j L) mo) out 0 0 := by
  refine zent_i (cc := cX4_valueBetween) (nL := 5) (by decide) rfl (Nat.le_of_ble_eq_true rfl) ?_
  intro p e s m args below meth c Q A hx hb hml hown hts hA hK hP hD hS hE ls hl hend
  have hown : s.vm.findClass RX4 = some m.cls := hown
  have hl : lv_has ls 5 [(0, .ref (E.1 (13 + 11 * j))), (1, .int x1), (2, .int x2), (3, .int x3)] := hl
  rw [fX4_valueBetween] at hF
  refine lv_iload_n hx hb dX4_valueBetween_0 rfl (lv_at hl 1 rfl) ?_
  refine lv_if_lt (tgt := 20) hx hb dX4_valueBetween_1 (by decide) (fun c_1 => ?_) (fun c_1 => ?_)
  · have hF := zit c_1 hF
    refine lv_iconst (v := 0) hx hb dX4_valueBetween_20 (by decide) ?_
    obtain rfl := Option.some.inj hF
    exact hend _ _ _ _ hP hD hS dX4_valueBetween_21
  · have hF := zif c_1 hF
    refine lv_iload_n hx hb dX4_valueBetween_4 rfl (lv_at hl 2 rfl) ?_
    refine lv_if_lt (tgt := 20) hx hb dX4_valueBetween_5 (by decide) (fun c_2 => ?_) (fun c_2 => ?_)
    · have hF := zit c_2 hF
      refine lv_iconst (v := 0) hx hb dX4_valueBetween_20 (by decide) ?_
      obtain rfl := Option.some.inj hF
      exact hend _ _ _ _ hP hD hS dX4_valueBetween_21
    · have hF := zif c_2 hF
      refine lv_iload_n hx hb dX4_valueBetween_8 rfl (lv_at hl 1 rfl) ?_
      refine lv_bipush (v := 8) hx hb dX4_valueBetween_9 (by decide) ?_
      refine lv_icmp_ge (tgt := 20) hx hb dX4_valueBetween_11 (by decide) (fun c_3 => ?_) (fun c_3 => ?_)
      · have hF := zit c_3 hF
        refine lv_iconst (v := 0) hx hb dX4_valueBetween_20 (by decide) ?_
        obtain rfl := Option.some.inj hF
        exact hend _ _ _ _ hP hD hS dX4_valueBetween_21
      · have hF := zif c_3 hF
        refine lv_iload_n hx hb dX4_valueBetween_14 rfl (lv_at hl 2 rfl) ?_
        refine lv_bipush (v := 8) hx hb dX4_valueBetween_15 (by decide) ?_
        refine lv_icmp_lt (tgt := 22) hx hb dX4_valueBetween_17 (by decide) (fun c_4 => ?_) (fun c_4 => ?_)
        · have hF := zit c_4 hF
          refine lv_aload_n hx hb dX4_valueBetween_22 rfl (lv_at hl 0 rfl) ?_
          refine va_get (D := D) (ci := 3) (v := .ref (E.1 (13 + 11 * j + 1))) (C := RX4) (T := TX4) (N := 19) hx hb hts (zi iX4) hown hK hP (13 + 11 * j) (zg_L _ _ _ _ _ _ _ _ _ _ hj _) rfl 9 (by decide) (zh hts k0_128) (fun _ h9 => h9) rfl dX4_valueBetween_23 ?_
          refine lv_iload_n hx hb dX4_valueBetween_26 rfl (lv_at hl 2 rfl) ?_
          obtain ⟨g_5, hF⟩ := zgd hF
          refine ziald (v := L.1.2 9 x2.toNatClampNeg) hx hb hK hP (13 + 11 * j + 1) 1 (zg_L_9 _ _ _ _ _ _ _ _ _ _ hj _) rfl g_5 rfl dX4_valueBetween_27 ?_
          refine lv_aload_n hx hb dX4_valueBetween_28 rfl (lv_at hl 0 rfl) ?_
          refine va_get (D := D) (ci := 3) (v := .ref (E.1 (13 + 11 * j + 1))) (C := RX4) (T := TX4) (N := 19) hx hb hts (zi iX4) hown hK hP (13 + 11 * j) (zg_L _ _ _ _ _ _ _ _ _ _ hj _) rfl 9 (by decide) (zh hts k0_128) (fun _ h9 => h9) rfl dX4_valueBetween_29 ?_
          refine lv_iload_n hx hb dX4_valueBetween_32 rfl (lv_at hl 1 rfl) ?_
          obtain ⟨g_6, hF⟩ := zgd hF
          refine ziald (v := L.1.2 9 x1.toNatClampNeg) hx hb hK hP (13 + 11 * j + 1) 1 (zg_L_9 _ _ _ _ _ _ _ _ _ _ hj _) rfl g_6 rfl dX4_valueBetween_33 ?_
          refine lv_isub hx hb dX4_valueBetween_34 ?_
          refine lv_istore (lv' := [(4, .int ((L.1.2 9 x2.toNatClampNeg) - (L.1.2 9 x1.toNatClampNeg))), (0, .ref (E.1 (13 + 11 * j))), (1, .int x1), (2, .int x2), (3, .int x3)]) hx hb dX4_valueBetween_35 hl (by decide) rfl (fun ls hl => ?_)
          refine lv_iload hx hb dX4_valueBetween_37 (lv_at hl 0 rfl) ?_
          refine lv_if_gt (tgt := 49) hx hb dX4_valueBetween_39 (by decide) (fun c_7 => ?_) (fun c_7 => ?_)
          · have hF := zit c_7 hF
            refine lv_aload_n hx hb dX4_valueBetween_49 rfl (lv_at hl 1 rfl) ?_
            refine va_get (D := D) (ci := 3) (v := .ref (E.1 (13 + 11 * j + 2))) (C := RX4) (T := TX4) (N := 19) hx hb hts (zi iX4) hown hK hP (13 + 11 * j) (zg_L _ _ _ _ _ _ _ _ _ _ hj _) rfl 10 (by decide) (zh hts k0_129) (fun _ h9 => h9) rfl dX4_valueBetween_50 ?_
            refine lv_iload_n hx hb dX4_valueBetween_53 rfl (lv_at hl 2 rfl) ?_
            obtain ⟨g_8, hF⟩ := zgd hF
            refine ziald (v := L.1.2 10 x1.toNatClampNeg) hx hb hK hP (13 + 11 * j + 2) 1 (zg_L_10 _ _ _ _ _ _ _ _ _ _ hj _) rfl g_8 rfl dX4_valueBetween_54 ?_
            refine lv_aload_n hx hb dX4_valueBetween_55 rfl (lv_at hl 1 rfl) ?_
            refine va_get (D := D) (ci := 3) (v := .ref (E.1 (13 + 11 * j + 2))) (C := RX4) (T := TX4) (N := 19) hx hb hts (zi iX4) hown hK hP (13 + 11 * j) (zg_L _ _ _ _ _ _ _ _ _ _ hj _) rfl 10 (by decide) (zh hts k0_129) (fun _ h9 => h9) rfl dX4_valueBetween_56 ?_
            refine lv_iload_n hx hb dX4_valueBetween_59 rfl (lv_at hl 3 rfl) ?_
            obtain ⟨g_9, hF⟩ := zgd hF
            refine ziald (v := L.1.2 10 x2.toNatClampNeg) hx hb hK hP (13 + 11 * j + 2) 1 (zg_L_10 _ _ _ _ _ _ _ _ _ _ hj _) rfl g_9 rfl dX4_valueBetween_60 ?_
            refine lv_aload_n hx hb dX4_valueBetween_61 rfl (lv_at hl 1 rfl) ?_
            refine va_get (D := D) (ci := 3) (v := .ref (E.1 (13 + 11 * j + 2))) (C := RX4) (T := TX4) (N := 19) hx hb hts (zi iX4) hown hK hP (13 + 11 * j) (zg_L _ _ _ _ _ _ _ _ _ _ hj _) rfl 10 (by decide) (zh hts k0_129) (fun _ h9 => h9) rfl dX4_valueBetween_62 ?_
            refine lv_iload_n hx hb dX4_valueBetween_65 rfl (lv_at hl 2 rfl) ?_
            obtain ⟨g_10, hF⟩ := zgd hF
            refine ziald (v := L.1.2 10 x1.toNatClampNeg) hx hb hK hP (13 + 11 * j + 2) 1 (zg_L_10 _ _ _ _ _ _ _ _ _ _ hj _) rfl g_10 rfl dX4_valueBetween_66 ?_
            refine lv_isub hx hb dX4_valueBetween_67 ?_
            refine lv_iload_n hx hb dX4_valueBetween_68 rfl (lv_at hl 4 rfl) ?_
            refine lv_aload_n hx hb dX4_valueBetween_69 rfl (lv_at hl 1 rfl) ?_
            refine va_get (D := D) (ci := 3) (v := .ref (E.1 (13 + 11 * j + 1))) (C := RX4) (T := TX4) (N := 19) hx hb hts (zi iX4) hown hK hP (13 + 11 * j) (zg_L _ _ _ _ _ _ _ _ _ _ hj _) rfl 9 (by decide) (zh hts k0_128) (fun _ h9 => h9) rfl dX4_valueBetween_70 ?_
            refine lv_iload_n hx hb dX4_valueBetween_73 rfl (lv_at hl 2 rfl) ?_
            obtain ⟨g_11, hF⟩ := zgd hF
            refine ziald (v := L.1.2 9 x1.toNatClampNeg) hx hb hK hP (13 + 11 * j + 1) 1 (zg_L_9 _ _ _ _ _ _ _ _ _ _ hj _) rfl g_11 rfl dX4_valueBetween_74 ?_
            refine lv_isub hx hb dX4_valueBetween_75 ?_
            refine lv_imul hx hb dX4_valueBetween_76 ?_
            refine lv_iload hx hb dX4_valueBetween_77 (lv_at hl 0 rfl) ?_
            obtain ⟨g_12, hF⟩ := zgd hF
            refine lv_idiv hx hb dX4_valueBetween_79 g_12 ?_
            refine lv_iadd hx hb dX4_valueBetween_80 ?_
            obtain rfl := Option.some.inj hF
            exact hend _ _ _ _ hP hD hS dX4_valueBetween_81
          · have hF := zif c_7 hF
            refine lv_aload_n hx hb dX4_valueBetween_42 rfl (lv_at hl 1 rfl) ?_
            refine va_get (D := D) (ci := 3) (v := .ref (E.1 (13 + 11 * j + 2))) (C := RX4) (T := TX4) (N := 19) hx hb hts (zi iX4) hown hK hP (13 + 11 * j) (zg_L _ _ _ _ _ _ _ _ _ _ hj _) rfl 10 (by decide) (zh hts k0_129) (fun _ h9 => h9) rfl dX4_valueBetween_43 ?_
            refine lv_iload_n hx hb dX4_valueBetween_46 rfl (lv_at hl 2 rfl) ?_
            obtain ⟨g_13, hF⟩ := zgd hF
            refine ziald (v := L.1.2 10 x1.toNatClampNeg) hx hb hK hP (13 + 11 * j + 2) 1 (zg_L_10 _ _ _ _ _ _ _ _ _ _ hj _) rfl g_13 rfl dX4_valueBetween_47 ?_
            obtain rfl := Option.some.inj hF
            exact hend _ _ _ _ hP hD hS dX4_valueBetween_48
        · have hF := zif c_4 hF
          refine lv_iconst (v := 0) hx hb dX4_valueBetween_20 (by decide) ?_
          obtain rfl := Option.some.inj hF
          exact hend _ _ _ _ hP hD hS dX4_valueBetween_21
def fX4_keeperAt (N : Nat) (KL : List Nat) (kc : Nat → zKC) (L : zLS) (x1 : Int32) : Option (Option Nat) :=
  if x1 < 0 then
    some (none : Option Nat)
  else
    if (L.1.1 6) ≤ x1 then
      some (none : Option Nat)
    else
      if (6 : Int32) ≤ x1 then
        some (none : Option Nat)
      else
        if x1 < 0 ∨ 6 ≤ x1.toNatClampNeg then none else
        match L.2 x1.toNatClampNeg with
        | none =>
          some (none : Option Nat)
        | some a_5 =>
          if ¬ zkd KL kc a_5 then none else
          some (some a_5)
set_option maxHeartbeats 4000000 in
set_option maxRecDepth 100000 in
theorem qX4_keeperAt (l : Launch) (D : va_G) (E : zE) (KL : List Nat) (kc : Nat → zKC) (on : zNS) (rw rd ft tr : zOS) (la : Nat → zLS) (mo : zMS) (j : Nat) (hj : j < 5) (L : zLS) (N sz : Nat) (x1 : Int32) (out : Option Nat) (hF : fX4_keeperAt N KL kc L x1 = some out) : zCq l yX4_keeperAt zwX4_keeperAt ({ frames := 0, cells := 0, slots := 0, locals := 0 }) [.ref (E.1 (13 + 11 * j)), .int x1] D E sz (zW E KL kc on rw rd ft tr (va_up la j L) mo) (zW E KL kc on rw rd ft tr (va_up la j L) mo) out 0 0 := by
  refine zent_q (cc := cX4_keeperAt) (nL := 2) (by decide) rfl (Nat.le_of_ble_eq_true rfl) ?_
  intro p e s m args below meth c Q A hx hb hml hown hts hA hK hP hD hS hE ls hl hend
  have hown : s.vm.findClass RX4 = some m.cls := hown
  have hl : lv_has ls 2 [(0, .ref (E.1 (13 + 11 * j))), (1, .int x1)] := hl
  rw [fX4_keeperAt] at hF
  refine lv_iload_n hx hb dX4_keeperAt_0 rfl (lv_at hl 1 rfl) ?_
  refine lv_if_lt (tgt := 27) hx hb dX4_keeperAt_1 (by decide) (fun c_1 => ?_) (fun c_1 => ?_)
  · have hF := zit c_1 hF
    refine lv_null hx hb dX4_keeperAt_27 ?_
    obtain rfl := Option.some.inj hF
    exact hend _ _ _ _ hP hD hS dX4_keeperAt_28
  · have hF := zif c_1 hF
    refine lv_iload_n hx hb dX4_keeperAt_4 rfl (lv_at hl 1 rfl) ?_
    refine lv_aload_n hx hb dX4_keeperAt_5 rfl (lv_at hl 0 rfl) ?_
    refine va_get (D := D) (ci := 3) (v := .int (L.1.1 6)) (C := RX4) (T := TX4) (N := 19) hx hb hts (zi iX4) hown hK hP (13 + 11 * j) (zg_L _ _ _ _ _ _ _ _ _ _ hj _) rfl 6 (by decide) (zh hts k0_116) (fun _ h9 => h9) rfl dX4_keeperAt_6 ?_
    refine lv_icmp_ge (tgt := 27) hx hb dX4_keeperAt_9 (by decide) (fun c_2 => ?_) (fun c_2 => ?_)
    · have hF := zit c_2 hF
      refine lv_null hx hb dX4_keeperAt_27 ?_
      obtain rfl := Option.some.inj hF
      exact hend _ _ _ _ hP hD hS dX4_keeperAt_28
    · have hF := zif c_2 hF
      refine lv_iload_n hx hb dX4_keeperAt_12 rfl (lv_at hl 1 rfl) ?_
      refine lv_bipush (v := 6) hx hb dX4_keeperAt_13 (by decide) ?_
      refine lv_icmp_ge (tgt := 27) hx hb dX4_keeperAt_15 (by decide) (fun c_3 => ?_) (fun c_3 => ?_)
      · have hF := zit c_3 hF
        refine lv_null hx hb dX4_keeperAt_27 ?_
        obtain rfl := Option.some.inj hF
        exact hend _ _ _ _ hP hD hS dX4_keeperAt_28
      · have hF := zif c_3 hF
        refine lv_aload_n hx hb dX4_keeperAt_18 rfl (lv_at hl 0 rfl) ?_
        refine va_get (D := D) (ci := 3) (v := .ref (E.1 (13 + 11 * j + 3))) (C := RX4) (T := TX4) (N := 19) hx hb hts (zi iX4) hown hK hP (13 + 11 * j) (zg_L _ _ _ _ _ _ _ _ _ _ hj _) rfl 11 (by decide) (zh hts k0_130) (fun _ h9 => h9) rfl dX4_keeperAt_19 ?_
        refine lv_iload_n hx hb dX4_keeperAt_22 rfl (lv_at hl 1 rfl) ?_
        obtain ⟨g_4, hF⟩ := zgd hF
        refine va_aldq (C := RX3) hx hb hK hP (13 + 11 * j + 3) 3 (zg_L_11 _ _ _ _ _ _ _ _ _ _ hj _) rfl g_4 dX4_keeperAt_23 ?_
        cases e_7 : L.2 x1.toNatClampNeg with
        | none =>
          rw [e_7] at hF
          refine lv_goto (tgt := 28) hx hb dX4_keeperAt_24 (by decide) ?_
          obtain rfl := Option.some.inj hF
          exact hend _ _ _ _ hP hD hS dX4_keeperAt_28
        | some a_5 =>
          rw [e_7] at hF
          obtain ⟨k_6, hF⟩ := zgd hF
          have k_6 := Decidable.not_not.mp k_6
          have km_5 := k_6.1
          have k_6 := k_6.2
          refine lv_goto (tgt := 28) hx hb dX4_keeperAt_24 (by decide) ?_
          obtain rfl := Option.some.inj hF
          exact hend _ _ _ _ hP hD hS dX4_keeperAt_28
def fX4_countOf (N : Nat) (L : zLS) (x1 : Int32) (x2 : Int32) : Option Int32 :=
  if x1 < 0 then
    some (0 : Int32)
  else
    if (L.1.1 6) ≤ x1 then
      some (0 : Int32)
    else
      if (6 : Int32) ≤ x1 then
        some (0 : Int32)
      else
        if x2 < 0 then
          some (0 : Int32)
        else
          if (L.1.1 7) ≤ x2 then
            some (0 : Int32)
          else
            if (8 : Int32) ≤ x2 then
              some (0 : Int32)
            else
              if ((x1 * (8 : Int32)) + x2) < 0 ∨ 48 ≤ ((x1 * (8 : Int32)) + x2).toNatClampNeg then none else
              some (L.1.2 14 (((x1 * (8 : Int32)) + x2).toNatClampNeg))
set_option maxHeartbeats 4000000 in
set_option maxRecDepth 100000 in
theorem qX4_countOf (l : Launch) (D : va_G) (E : zE) (KL : List Nat) (kc : Nat → zKC) (on : zNS) (rw rd ft tr : zOS) (la : Nat → zLS) (mo : zMS) (j : Nat) (hj : j < 5) (L : zLS) (N sz : Nat) (x1 : Int32) (x2 : Int32) (out : Int32) (hF : fX4_countOf N L x1 x2 = some out) : zCi l yX4_countOf zwX4_countOf ({ frames := 0, cells := 0, slots := 0, locals := 0 }) [.ref (E.1 (13 + 11 * j)), .int x1, .int x2] D E sz (zW E KL kc on rw rd ft tr (va_up la j L) mo) (zW E KL kc on rw rd ft tr (va_up la j L) mo) out 0 0 := by
  refine zent_i (cc := cX4_countOf) (nL := 4) (by decide) rfl (Nat.le_of_ble_eq_true rfl) ?_
  intro p e s m args below meth c Q A hx hb hml hown hts hA hK hP hD hS hE ls hl hend
  have hown : s.vm.findClass RX4 = some m.cls := hown
  have hl : lv_has ls 4 [(0, .ref (E.1 (13 + 11 * j))), (1, .int x1), (2, .int x2)] := hl
  rw [fX4_countOf] at hF
  refine lv_iload_n hx hb dX4_countOf_0 rfl (lv_at hl 1 rfl) ?_
  refine lv_if_lt (tgt := 40) hx hb dX4_countOf_1 (by decide) (fun c_1 => ?_) (fun c_1 => ?_)
  · have hF := zit c_1 hF
    refine lv_iconst (v := 0) hx hb dX4_countOf_40 (by decide) ?_
    refine lv_istore_n (lv' := [(3, .int (0 : Int32)), (0, .ref (E.1 (13 + 11 * j))), (1, .int x1), (2, .int x2)]) hx hb dX4_countOf_41 rfl hl (by decide) rfl (fun ls hl => ?_)
    refine lv_iload_n hx hb dX4_countOf_42 rfl (lv_at hl 0 rfl) ?_
    refine lv_if_eq (tgt := 60) hx hb dX4_countOf_43 (by decide) (fun c_2 => ?_) (fun c_2 => ?_)
    · refine lv_iconst (v := 0) hx hb dX4_countOf_60 (by decide) ?_
      obtain rfl := Option.some.inj hF
      exact hend _ _ _ _ hP hD hS dX4_countOf_61
    · exact absurd (by decide) c_2
  · have hF := zif c_1 hF
    refine lv_iload_n hx hb dX4_countOf_4 rfl (lv_at hl 1 rfl) ?_
    refine lv_aload_n hx hb dX4_countOf_5 rfl (lv_at hl 0 rfl) ?_
    refine va_get (D := D) (ci := 3) (v := .int (L.1.1 6)) (C := RX4) (T := TX4) (N := 19) hx hb hts (zi iX4) hown hK hP (13 + 11 * j) (zg_L _ _ _ _ _ _ _ _ _ _ hj _) rfl 6 (by decide) (zh hts k0_116) (fun _ h9 => h9) rfl dX4_countOf_6 ?_
    refine lv_icmp_ge (tgt := 40) hx hb dX4_countOf_9 (by decide) (fun c_3 => ?_) (fun c_3 => ?_)
    · have hF := zit c_3 hF
      refine lv_iconst (v := 0) hx hb dX4_countOf_40 (by decide) ?_
      refine lv_istore_n (lv' := [(3, .int (0 : Int32)), (0, .ref (E.1 (13 + 11 * j))), (1, .int x1), (2, .int x2)]) hx hb dX4_countOf_41 rfl hl (by decide) rfl (fun ls hl => ?_)
      refine lv_iload_n hx hb dX4_countOf_42 rfl (lv_at hl 0 rfl) ?_
      refine lv_if_eq (tgt := 60) hx hb dX4_countOf_43 (by decide) (fun c_4 => ?_) (fun c_4 => ?_)
      · refine lv_iconst (v := 0) hx hb dX4_countOf_60 (by decide) ?_
        obtain rfl := Option.some.inj hF
        exact hend _ _ _ _ hP hD hS dX4_countOf_61
      · exact absurd (by decide) c_4
    · have hF := zif c_3 hF
      refine lv_iload_n hx hb dX4_countOf_12 rfl (lv_at hl 1 rfl) ?_
      refine lv_bipush (v := 6) hx hb dX4_countOf_13 (by decide) ?_
      refine lv_icmp_ge (tgt := 40) hx hb dX4_countOf_15 (by decide) (fun c_5 => ?_) (fun c_5 => ?_)
      · have hF := zit c_5 hF
        refine lv_iconst (v := 0) hx hb dX4_countOf_40 (by decide) ?_
        refine lv_istore_n (lv' := [(3, .int (0 : Int32)), (0, .ref (E.1 (13 + 11 * j))), (1, .int x1), (2, .int x2)]) hx hb dX4_countOf_41 rfl hl (by decide) rfl (fun ls hl => ?_)
        refine lv_iload_n hx hb dX4_countOf_42 rfl (lv_at hl 0 rfl) ?_
        refine lv_if_eq (tgt := 60) hx hb dX4_countOf_43 (by decide) (fun c_6 => ?_) (fun c_6 => ?_)
        · refine lv_iconst (v := 0) hx hb dX4_countOf_60 (by decide) ?_
          obtain rfl := Option.some.inj hF
          exact hend _ _ _ _ hP hD hS dX4_countOf_61
        · exact absurd (by decide) c_6
      · have hF := zif c_5 hF
        refine lv_iload_n hx hb dX4_countOf_18 rfl (lv_at hl 2 rfl) ?_
        refine lv_if_lt (tgt := 40) hx hb dX4_countOf_19 (by decide) (fun c_7 => ?_) (fun c_7 => ?_)
        · have hF := zit c_7 hF
          refine lv_iconst (v := 0) hx hb dX4_countOf_40 (by decide) ?_
          refine lv_istore_n (lv' := [(3, .int (0 : Int32)), (0, .ref (E.1 (13 + 11 * j))), (1, .int x1), (2, .int x2)]) hx hb dX4_countOf_41 rfl hl (by decide) rfl (fun ls hl => ?_)
          refine lv_iload_n hx hb dX4_countOf_42 rfl (lv_at hl 0 rfl) ?_
          refine lv_if_eq (tgt := 60) hx hb dX4_countOf_43 (by decide) (fun c_8 => ?_) (fun c_8 => ?_)
          · refine lv_iconst (v := 0) hx hb dX4_countOf_60 (by decide) ?_
            obtain rfl := Option.some.inj hF
            exact hend _ _ _ _ hP hD hS dX4_countOf_61
          · exact absurd (by decide) c_8
        · have hF := zif c_7 hF
          refine lv_iload_n hx hb dX4_countOf_22 rfl (lv_at hl 2 rfl) ?_
          refine lv_aload_n hx hb dX4_countOf_23 rfl (lv_at hl 0 rfl) ?_
          refine va_get (D := D) (ci := 3) (v := .int (L.1.1 7)) (C := RX4) (T := TX4) (N := 19) hx hb hts (zi iX4) hown hK hP (13 + 11 * j) (zg_L _ _ _ _ _ _ _ _ _ _ hj _) rfl 7 (by decide) (zh hts k0_121) (fun _ h9 => h9) rfl dX4_countOf_24 ?_
          refine lv_icmp_ge (tgt := 40) hx hb dX4_countOf_27 (by decide) (fun c_9 => ?_) (fun c_9 => ?_)
          · have hF := zit c_9 hF
            refine lv_iconst (v := 0) hx hb dX4_countOf_40 (by decide) ?_
            refine lv_istore_n (lv' := [(3, .int (0 : Int32)), (0, .ref (E.1 (13 + 11 * j))), (1, .int x1), (2, .int x2)]) hx hb dX4_countOf_41 rfl hl (by decide) rfl (fun ls hl => ?_)
            refine lv_iload_n hx hb dX4_countOf_42 rfl (lv_at hl 0 rfl) ?_
            refine lv_if_eq (tgt := 60) hx hb dX4_countOf_43 (by decide) (fun c_10 => ?_) (fun c_10 => ?_)
            · refine lv_iconst (v := 0) hx hb dX4_countOf_60 (by decide) ?_
              obtain rfl := Option.some.inj hF
              exact hend _ _ _ _ hP hD hS dX4_countOf_61
            · exact absurd (by decide) c_10
          · have hF := zif c_9 hF
            refine lv_iload_n hx hb dX4_countOf_30 rfl (lv_at hl 2 rfl) ?_
            refine lv_bipush (v := 8) hx hb dX4_countOf_31 (by decide) ?_
            refine lv_icmp_ge (tgt := 40) hx hb dX4_countOf_33 (by decide) (fun c_11 => ?_) (fun c_11 => ?_)
            · have hF := zit c_11 hF
              refine lv_iconst (v := 0) hx hb dX4_countOf_40 (by decide) ?_
              refine lv_istore_n (lv' := [(3, .int (0 : Int32)), (0, .ref (E.1 (13 + 11 * j))), (1, .int x1), (2, .int x2)]) hx hb dX4_countOf_41 rfl hl (by decide) rfl (fun ls hl => ?_)
              refine lv_iload_n hx hb dX4_countOf_42 rfl (lv_at hl 0 rfl) ?_
              refine lv_if_eq (tgt := 60) hx hb dX4_countOf_43 (by decide) (fun c_12 => ?_) (fun c_12 => ?_)
              · refine lv_iconst (v := 0) hx hb dX4_countOf_60 (by decide) ?_
                obtain rfl := Option.some.inj hF
                exact hend _ _ _ _ hP hD hS dX4_countOf_61
              · exact absurd (by decide) c_12
            · have hF := zif c_11 hF
              refine lv_iconst (v := 1) hx hb dX4_countOf_36 (by decide) ?_
              refine lv_goto (tgt := 41) hx hb dX4_countOf_37 (by decide) ?_
              refine lv_istore_n (lv' := [(3, .int (1 : Int32)), (0, .ref (E.1 (13 + 11 * j))), (1, .int x1), (2, .int x2)]) hx hb dX4_countOf_41 rfl hl (by decide) rfl (fun ls hl => ?_)
              refine lv_iload_n hx hb dX4_countOf_42 rfl (lv_at hl 0 rfl) ?_
              refine lv_if_eq (tgt := 60) hx hb dX4_countOf_43 (by decide) (fun c_13 => ?_) (fun c_13 => ?_)
              · exact absurd c_13 (by decide)
              · refine lv_aload_n hx hb dX4_countOf_46 rfl (lv_at hl 1 rfl) ?_
                refine va_get (D := D) (ci := 3) (v := .ref (E.1 (13 + 11 * j + 6))) (C := RX4) (T := TX4) (N := 19) hx hb hts (zi iX4) hown hK hP (13 + 11 * j) (zg_L _ _ _ _ _ _ _ _ _ _ hj _) rfl 14 (by decide) (zh hts k0_133) (fun _ h9 => h9) rfl dX4_countOf_47 ?_
                refine lv_iload_n hx hb dX4_countOf_50 rfl (lv_at hl 2 rfl) ?_
                refine lv_bipush (v := 8) hx hb dX4_countOf_51 (by decide) ?_
                refine lv_imul hx hb dX4_countOf_53 ?_
                refine lv_iload_n hx hb dX4_countOf_54 rfl (lv_at hl 3 rfl) ?_
                refine lv_iadd hx hb dX4_countOf_55 ?_
                obtain ⟨g_14, hF⟩ := zgd hF
                refine ziald (v := L.1.2 14 (((x1 * (8 : Int32)) + x2).toNatClampNeg)) hx hb hK hP (13 + 11 * j + 6) 1 (zg_L_14 _ _ _ _ _ _ _ _ _ _ hj _) rfl g_14 rfl dX4_countOf_56 ?_
                refine lv_goto (tgt := 61) hx hb dX4_countOf_57 (by decide) ?_
                obtain rfl := Option.some.inj hF
                exact hend _ _ _ _ hP hD hS dX4_countOf_61
def fX4_hasUnsold (N : Nat) (L : zLS) (x1 : Int32) (x2 : Int32) : Option Int32 :=
  (fX4_countOf N L x1 x2).bind fun u_2 =>
  if u_2 ≤ 0 then
    some (0 : Int32)
  else
    if x1 < 0 ∨ 6 ≤ x1.toNatClampNeg then none else
    if (((L.1.2 16 x1.toNatClampNeg) >>> (x2 &&& 31)) &&& (1 : Int32)) = 0 then
      some (1 : Int32)
    else
      some (0 : Int32)
set_option maxHeartbeats 4000000 in
set_option maxRecDepth 100000 in
theorem qX4_hasUnsold (l : Launch) (D : va_G) (E : zE) (KL : List Nat) (kc : Nat → zKC) (on : zNS) (rw rd ft tr : zOS) (la : Nat → zLS) (mo : zMS) (j : Nat) (hj : j < 5) (L : zLS) (N sz : Nat) (x1 : Int32) (x2 : Int32) (out : Int32) (hF : fX4_hasUnsold N L x1 x2 = some out) : zCi l yX4_hasUnsold zwX4_hasUnsold ({ frames := 1, cells := 0, slots := 0, locals := 23 }) [.ref (E.1 (13 + 11 * j)), .int x1, .int x2] D E sz (zW E KL kc on rw rd ft tr (va_up la j L) mo) (zW E KL kc on rw rd ft tr (va_up la j L) mo) out 0 0 := by
  refine zent_z (cc := cX4_hasUnsold) (nL := 3) (by decide) rfl (Nat.le_of_ble_eq_true rfl) ?_
  intro p e s m args below meth c Q A hx hb hml hown hts hA hK hP hD hS hE ls hl hend
  have hown : s.vm.findClass RX4 = some m.cls := hown
  have hl : lv_has ls 3 [(0, .ref (E.1 (13 + 11 * j))), (1, .int x1), (2, .int x2)] := hl
  rw [fX4_hasUnsold] at hF
  refine lv_aload_n hx hb dX4_hasUnsold_0 rfl (lv_at hl 0 rfl) ?_
  refine lv_iload_n hx hb dX4_hasUnsold_1 rfl (lv_at hl 1 rfl) ?_
  refine lv_iload_n hx hb dX4_hasUnsold_2 rfl (lv_at hl 2 rfl) ?_
  have hrv_1 := (va_recv hK hP (ci := 3) (q0 := 13 + 11 * j) rfl (zg_L _ _ _ _ _ _ _ _ _ _ hj _))
  obtain ⟨u_2, hu_2, hF⟩ := zbd hF
  refine zcall_i (va_runV (As := [.int x1, .int x2]) (rest := []) ⟨hx, hb, hml, hown, hts⟩ (qX4_countOf l D E KL kc on rw rd ft tr la mo j hj L N _ x1 x2 _ hu_2) (cwV 2 hts (zgV k2_133 k2_134 k2_135 k0_6 k2_136) rfl rfl rfl (by decide +kernel) ⟨Nat.le_of_ble_eq_true rfl, Nat.le_of_ble_eq_true rfl⟩) (zpv hE hS hA hK hP hD hrv_1) rfl rfl hl.1 rfl (lv_room (Nat.le_of_ble_eq_true rfl)) dX4_hasUnsold_3 ⟨Nat.zero_le _, Nat.zero_le _⟩) hD hS hA (fun H locs hP hD hS => ?_)
  refine lv_if_le (tgt := 26) hx hb dX4_hasUnsold_6 (by decide) (fun c_3 => ?_) (fun c_3 => ?_)
  · have hF := zit c_3 hF
    refine lv_iconst (v := 0) hx hb dX4_hasUnsold_26 (by decide) ?_
    obtain rfl := Option.some.inj hF
    exact hend _ _ _ _ znar0 hP hD hS dX4_hasUnsold_27
  · have hF := zif c_3 hF
    refine lv_aload_n hx hb dX4_hasUnsold_9 rfl (lv_at hl 0 rfl) ?_
    refine va_get (D := D) (ci := 3) (v := .ref (E.1 (13 + 11 * j + 8))) (C := RX4) (T := TX4) (N := 19) hx hb hts (zi iX4) hown hK hP (13 + 11 * j) (zg_L _ _ _ _ _ _ _ _ _ _ hj _) rfl 16 (by decide) (zh hts k0_135) (fun _ h9 => h9) rfl dX4_hasUnsold_10 ?_
    refine lv_iload_n hx hb dX4_hasUnsold_13 rfl (lv_at hl 1 rfl) ?_
    obtain ⟨g_4, hF⟩ := zgd hF
    refine ziald (v := L.1.2 16 x1.toNatClampNeg) hx hb hK hP (13 + 11 * j + 8) 1 (zg_L_16 _ _ _ _ _ _ _ _ _ _ hj _) rfl g_4 rfl dX4_hasUnsold_14 ?_
    refine lv_iload_n hx hb dX4_hasUnsold_15 rfl (lv_at hl 2 rfl) ?_
    refine lv_ishr hx hb dX4_hasUnsold_16 ?_
    refine lv_iconst (v := 1) hx hb dX4_hasUnsold_17 (by decide) ?_
    refine lv_iand hx hb dX4_hasUnsold_18 ?_
    refine lv_if_ne (tgt := 26) hx hb dX4_hasUnsold_19 (by decide) (fun c_5 => ?_) (fun c_5 => ?_)
    · have hF := zif c_5 hF
      refine lv_iconst (v := 0) hx hb dX4_hasUnsold_26 (by decide) ?_
      obtain rfl := Option.some.inj hF
      exact hend _ _ _ _ znar0 hP hD hS dX4_hasUnsold_27
    · have hF := zit c_5 hF
      refine lv_iconst (v := 1) hx hb dX4_hasUnsold_22 (by decide) ?_
      refine lv_goto (tgt := 27) hx hb dX4_hasUnsold_23 (by decide) ?_
      obtain rfl := Option.some.inj hF
      exact hend _ _ _ _ znar1 hP hD hS dX4_hasUnsold_27
def fX4_keepersWith_l1 (N : Nat) (L_4 : zLS) (x1_1 : Int32) : Nat → Int32 → Int32 → Option Int32
  | 0, _, _ => none
  | n + 1, x2_2, x3_3 =>
    if (L_4.1.1 6) ≤ x3_3 then
      some x2_2
    else
      (fX4_countOf N L_4 x3_3 x1_1).bind fun u_7 =>
      if u_7 ≤ 0 then
        fX4_keepersWith_l1 N L_4 x1_1 n x2_2 (x3_3 + (1 : Int32))
      else
        fX4_keepersWith_l1 N L_4 x1_1 n (x2_2 + (1 : Int32)) (x3_3 + (1 : Int32))
def fX4_keepersWith (N : Nat) (L : zLS) (x1 : Int32) : Option Int32 :=
  (fX4_keepersWith_l1 N L x1 N (0 : Int32) (0 : Int32)).bind (fun u_11 =>
    some u_11)
set_option maxHeartbeats 4000000 in
set_option maxRecDepth 100000 in
theorem qX4_keepersWith (l : Launch) (D : va_G) (E : zE) (KL : List Nat) (kc : Nat → zKC) (on : zNS) (rw rd ft tr : zOS) (la : Nat → zLS) (mo : zMS) (j : Nat) (hj : j < 5) (L : zLS) (N sz : Nat) (x1 : Int32) (out : Int32) (hF : fX4_keepersWith N L x1 = some out) : zCi l yX4_keepersWith zwX4_keepersWith ({ frames := 1, cells := 0, slots := 0, locals := 23 }) [.ref (E.1 (13 + 11 * j)), .int x1] D E sz (zW E KL kc on rw rd ft tr (va_up la j L) mo) (zW E KL kc on rw rd ft tr (va_up la j L) mo) out 0 0 := by
  refine zent_i (cc := cX4_keepersWith) (nL := 4) (by decide) rfl (Nat.le_of_ble_eq_true rfl) ?_
  intro p e s m args below meth c Q A hx hb hml hown hts hA hK hP hD hS hE ls hl hend
  have hown : s.vm.findClass RX4 = some m.cls := hown
  have hl : lv_has ls 4 [(0, .ref (E.1 (13 + 11 * j))), (1, .int x1)] := hl
  rw [fX4_keepersWith] at hF
  refine lv_iconst (v := 0) hx hb dX4_keepersWith_0 (by decide) ?_
  refine lv_istore_n (lv' := [(2, .int (0 : Int32)), (0, .ref (E.1 (13 + 11 * j))), (1, .int x1)]) hx hb dX4_keepersWith_1 rfl hl (by decide) rfl (fun ls hl => ?_)
  refine lv_iconst (v := 0) hx hb dX4_keepersWith_2 (by decide) ?_
  refine lv_istore_n (lv' := [(3, .int (0 : Int32)), (2, .int (0 : Int32)), (0, .ref (E.1 (13 + 11 * j))), (1, .int x1)]) hx hb dX4_keepersWith_3 rfl hl (by decide) rfl (fun ls hl => ?_)
  obtain ⟨o_9, ho_9, hF⟩ := zbd hF
  have kx_1_0 : ∀ (x2_10 : Int32), x2_10 = o_9 → ∀ (H : Heap) (locs : List Loc) (ls : Array Slot), va_P D vwCl (zW E KL kc on rw rd ft tr (va_up la j L) mo) H → va_D A (zW E KL kc on rw rd ft tr (va_up la j L) mo) → va_S A s.heap H locs → lv_has ls 4 [(2, .int x2_10)] → W p l e ({ frames := 1, cells := 0, slots := 0, locals := 23 } : Room) s m args below meth c H locs 0 0 Q (F0 m 30 ls []) := by
    intro x2_10 ho H locs ls hP hD hS hl
    subst ho
    refine lv_iload_n hx hb dX4_keepersWith_30 rfl (lv_at hl 0 rfl) ?_
    obtain rfl := Option.some.inj hF
    exact hend _ _ _ _ hP hD hS dX4_keepersWith_31
  have lp_1 : ∀ (L_4 : zLS) (x1_1 : Int32) (n : Nat) (x2_2 : Int32) (x3_3 : Int32) (o : Int32), fX4_keepersWith_l1 N L_4 x1_1 n x2_2 x3_3 = some o → (∀ (x2_10 : Int32), x2_10 = o → ∀ (H : Heap) (locs : List Loc) (ls : Array Slot), va_P D vwCl (zW E KL kc on rw rd ft tr (va_up la j L_4) mo) H → va_D A (zW E KL kc on rw rd ft tr (va_up la j L_4) mo) → va_S A s.heap H locs → lv_has ls 4 [(2, .int x2_10)] → W p l e ({ frames := 1, cells := 0, slots := 0, locals := 23 } : Room) s m args below meth c H locs 0 0 Q (F0 m 30 ls [])) → ∀ (H : Heap) (locs : List Loc) (ls : Array Slot), va_P D vwCl (zW E KL kc on rw rd ft tr (va_up la j L_4) mo) H → va_D A (zW E KL kc on rw rd ft tr (va_up la j L_4) mo) → va_S A s.heap H locs → lv_has ls 4 [(0, .ref (E.1 (13 + 11 * j))), (1, .int x1_1), (2, .int x2_2), (3, .int x3_3)] → W p l e ({ frames := 1, cells := 0, slots := 0, locals := 23 } : Room) s m args below meth c H locs 0 0 Q (F0 m 4 ls []) := by
    intro L_4 x1_1 n
    induction n with
    | zero =>
      intro x2_2 x3_3 o hF
      exact znone hF
    | succ n ih =>
      intro x2_2 x3_3 o hF kx_1_0 H locs ls hP hD hS hl
      rw [fX4_keepersWith_l1] at hF
      refine lv_iload_n hx hb dX4_keepersWith_4 rfl (lv_at hl 3 rfl) ?_
      refine lv_aload_n hx hb dX4_keepersWith_5 rfl (lv_at hl 0 rfl) ?_
      refine va_get (D := D) (ci := 3) (v := .int (L_4.1.1 6)) (C := RX4) (T := TX4) (N := 19) hx hb hts (zi iX4) hown hK hP (13 + 11 * j) (zg_L _ _ _ _ _ _ _ _ _ _ hj _) rfl 6 (by decide) (zh hts k0_116) (fun _ h9 => h9) rfl dX4_keepersWith_6 ?_
      refine lv_icmp_ge (tgt := 30) hx hb dX4_keepersWith_9 (by decide) (fun c_5 => ?_) (fun c_5 => ?_)
      · have hF := zit c_5 hF
        exact kx_1_0 x2_2 (Option.some.inj hF) _ _ _ hP hD hS (lv_sub hl [2] rfl)
      · have hF := zif c_5 hF
        refine lv_aload_n hx hb dX4_keepersWith_12 rfl (lv_at hl 0 rfl) ?_
        refine lv_iload_n hx hb dX4_keepersWith_13 rfl (lv_at hl 3 rfl) ?_
        refine lv_iload_n hx hb dX4_keepersWith_14 rfl (lv_at hl 1 rfl) ?_
        have hrv_6 := (va_recv hK hP (ci := 3) (q0 := 13 + 11 * j) rfl (zg_L _ _ _ _ _ _ _ _ _ _ hj _))
        obtain ⟨u_7, hu_7, hF⟩ := zbd hF
        refine zcall_i (va_runV (As := [.int x3_3, .int x1_1]) (rest := []) ⟨hx, hb, hml, hown, hts⟩ (qX4_countOf l D E KL kc on rw rd ft tr la mo j hj L_4 N _ x3_3 x1_1 _ hu_7) (cwV 2 hts (zgV k2_133 k2_134 k2_135 k0_6 k2_136) rfl rfl rfl (by decide +kernel) ⟨Nat.le_of_ble_eq_true rfl, Nat.le_of_ble_eq_true rfl⟩) (zpv hE hS hA hK hP hD hrv_6) rfl rfl hl.1 rfl (lv_room (Nat.le_of_ble_eq_true rfl)) dX4_keepersWith_15 ⟨Nat.zero_le _, Nat.zero_le _⟩) hD hS hA (fun H locs hP hD hS => ?_)
        refine lv_if_le (tgt := 24) hx hb dX4_keepersWith_18 (by decide) (fun c_8 => ?_) (fun c_8 => ?_)
        · have hF := zit c_8 hF
          refine lv_iinc (v := x3_3 + (1 : Int32)) (lv' := [(3, .int (x3_3 + (1 : Int32))), (0, .ref (E.1 (13 + 11 * j))), (1, .int x1_1), (2, .int x2_2)]) hx hb dX4_keepersWith_24 hl (k := 3) rfl rfl (by decide) rfl (fun ls hl => ?_)
          refine lv_goto (tgt := 4) hx hb dX4_keepersWith_27 (by decide) ?_
          exact ih x2_2 (x3_3 + (1 : Int32)) _ hF kx_1_0 _ _ _ hP hD hS (lv_sub hl [1, 2, 3, 0] rfl)
        · have hF := zif c_8 hF
          refine lv_iinc (v := x2_2 + (1 : Int32)) (lv' := [(2, .int (x2_2 + (1 : Int32))), (0, .ref (E.1 (13 + 11 * j))), (1, .int x1_1), (3, .int x3_3)]) hx hb dX4_keepersWith_21 hl (k := 2) rfl rfl (by decide) rfl (fun ls hl => ?_)
          refine lv_iinc (v := x3_3 + (1 : Int32)) (lv' := [(3, .int (x3_3 + (1 : Int32))), (2, .int (x2_2 + (1 : Int32))), (0, .ref (E.1 (13 + 11 * j))), (1, .int x1_1)]) hx hb dX4_keepersWith_24 hl (k := 3) rfl rfl (by decide) rfl (fun ls hl => ?_)
          refine lv_goto (tgt := 4) hx hb dX4_keepersWith_27 (by decide) ?_
          exact ih (x2_2 + (1 : Int32)) (x3_3 + (1 : Int32)) _ hF kx_1_0 _ _ _ hP hD hS (lv_sub hl [2, 3, 1, 0] rfl)
  exact lp_1 L x1 N (0 : Int32) (0 : Int32) _ ho_9 kx_1_0 _ _ _ hP hD hS (lv_sub hl [2, 3, 1, 0] rfl)
def fX4_knownBy (N : Nat) (L : zLS) (x1 : Int32) : Option Int32 :=
  (fX4_isPiece N L x1).bind fun u_2 =>
  if u_2 = 0 then
    some (0 : Int32)
  else
    if x1 < 0 ∨ 8 ≤ x1.toNatClampNeg then none else
    some (L.1.2 17 x1.toNatClampNeg)
set_option maxHeartbeats 4000000 in
set_option maxRecDepth 100000 in
theorem qX4_knownBy (l : Launch) (D : va_G) (E : zE) (KL : List Nat) (kc : Nat → zKC) (on : zNS) (rw rd ft tr : zOS) (la : Nat → zLS) (mo : zMS) (j : Nat) (hj : j < 5) (L : zLS) (N sz : Nat) (x1 : Int32) (out : Int32) (hF : fX4_knownBy N L x1 = some out) : zCi l yX4_knownBy zwX4_knownBy ({ frames := 1, cells := 0, slots := 0, locals := 21 }) [.ref (E.1 (13 + 11 * j)), .int x1] D E sz (zW E KL kc on rw rd ft tr (va_up la j L) mo) (zW E KL kc on rw rd ft tr (va_up la j L) mo) out 0 0 := by
  refine zent_i (cc := cX4_knownBy) (nL := 2) (by decide) rfl (Nat.le_of_ble_eq_true rfl) ?_
  intro p e s m args below meth c Q A hx hb hml hown hts hA hK hP hD hS hE ls hl hend
  have hown : s.vm.findClass RX4 = some m.cls := hown
  have hl : lv_has ls 2 [(0, .ref (E.1 (13 + 11 * j))), (1, .int x1)] := hl
  rw [fX4_knownBy] at hF
  refine lv_aload_n hx hb dX4_knownBy_0 rfl (lv_at hl 0 rfl) ?_
  refine lv_iload_n hx hb dX4_knownBy_1 rfl (lv_at hl 1 rfl) ?_
  have hrv_1 := (va_recv hK hP (ci := 3) (q0 := 13 + 11 * j) rfl (zg_L _ _ _ _ _ _ _ _ _ _ hj _))
  obtain ⟨u_2, hu_2, hF⟩ := zbd hF
  refine zcall_i (va_runV (As := [.int x1]) (rest := []) ⟨hx, hb, hml, hown, hts⟩ (qX4_isPiece l D E KL kc on rw rd ft tr la mo j hj L N _ x1 _ hu_2) (cwV 1 hts (zgV k2_173 k2_174 k2_175 k0_6 k2_176) rfl rfl rfl (by decide +kernel) ⟨Nat.le_of_ble_eq_true rfl, Nat.le_of_ble_eq_true rfl⟩) (zpv hE hS hA hK hP hD hrv_1) rfl rfl hl.1 rfl (lv_room (Nat.le_of_ble_eq_true rfl)) dX4_knownBy_2 ⟨Nat.zero_le _, Nat.zero_le _⟩) hD hS hA (fun H locs hP hD hS => ?_)
  refine lv_if_eq (tgt := 17) hx hb dX4_knownBy_5 (by decide) (fun c_3 => ?_) (fun c_3 => ?_)
  · have hF := zit c_3 hF
    refine lv_iconst (v := 0) hx hb dX4_knownBy_17 (by decide) ?_
    obtain rfl := Option.some.inj hF
    exact hend _ _ _ _ hP hD hS dX4_knownBy_18
  · have hF := zif c_3 hF
    refine lv_aload_n hx hb dX4_knownBy_8 rfl (lv_at hl 0 rfl) ?_
    refine va_get (D := D) (ci := 3) (v := .ref (E.1 (13 + 11 * j + 9))) (C := RX4) (T := TX4) (N := 19) hx hb hts (zi iX4) hown hK hP (13 + 11 * j) (zg_L _ _ _ _ _ _ _ _ _ _ hj _) rfl 17 (by decide) (zh hts k0_136) (fun _ h9 => h9) rfl dX4_knownBy_9 ?_
    refine lv_iload_n hx hb dX4_knownBy_12 rfl (lv_at hl 1 rfl) ?_
    obtain ⟨g_4, hF⟩ := zgd hF
    refine ziald (v := L.1.2 17 x1.toNatClampNeg) hx hb hK hP (13 + 11 * j + 9) 1 (zg_L_17 _ _ _ _ _ _ _ _ _ _ hj _) rfl g_4 rfl dX4_knownBy_13 ?_
    refine lv_goto (tgt := 18) hx hb dX4_knownBy_14 (by decide) ?_
    obtain rfl := Option.some.inj hF
    exact hend _ _ _ _ hP hD hS dX4_knownBy_18
def fX4_useOf (N : Nat) (L : zLS) (x1 : Int32) : Option Int32 :=
  (fX4_isPiece N L x1).bind fun u_2 =>
  if u_2 = 0 then
    some (0 : Int32)
  else
    if x1 < 0 ∨ 8 ≤ x1.toNatClampNeg then none else
    some (L.1.2 12 x1.toNatClampNeg)
set_option maxHeartbeats 4000000 in
set_option maxRecDepth 100000 in
theorem qX4_useOf (l : Launch) (D : va_G) (E : zE) (KL : List Nat) (kc : Nat → zKC) (on : zNS) (rw rd ft tr : zOS) (la : Nat → zLS) (mo : zMS) (j : Nat) (hj : j < 5) (L : zLS) (N sz : Nat) (x1 : Int32) (out : Int32) (hF : fX4_useOf N L x1 = some out) : zCi l yX4_useOf zwX4_useOf ({ frames := 1, cells := 0, slots := 0, locals := 21 }) [.ref (E.1 (13 + 11 * j)), .int x1] D E sz (zW E KL kc on rw rd ft tr (va_up la j L) mo) (zW E KL kc on rw rd ft tr (va_up la j L) mo) out 0 0 := by
  refine zent_i (cc := cX4_useOf) (nL := 2) (by decide) rfl (Nat.le_of_ble_eq_true rfl) ?_
  intro p e s m args below meth c Q A hx hb hml hown hts hA hK hP hD hS hE ls hl hend
  have hown : s.vm.findClass RX4 = some m.cls := hown
  have hl : lv_has ls 2 [(0, .ref (E.1 (13 + 11 * j))), (1, .int x1)] := hl
  rw [fX4_useOf] at hF
  refine lv_aload_n hx hb dX4_useOf_0 rfl (lv_at hl 0 rfl) ?_
  refine lv_iload_n hx hb dX4_useOf_1 rfl (lv_at hl 1 rfl) ?_
  have hrv_1 := (va_recv hK hP (ci := 3) (q0 := 13 + 11 * j) rfl (zg_L _ _ _ _ _ _ _ _ _ _ hj _))
  obtain ⟨u_2, hu_2, hF⟩ := zbd hF
  refine zcall_i (va_runV (As := [.int x1]) (rest := []) ⟨hx, hb, hml, hown, hts⟩ (qX4_isPiece l D E KL kc on rw rd ft tr la mo j hj L N _ x1 _ hu_2) (cwV 1 hts (zgV k2_173 k2_174 k2_175 k0_6 k2_176) rfl rfl rfl (by decide +kernel) ⟨Nat.le_of_ble_eq_true rfl, Nat.le_of_ble_eq_true rfl⟩) (zpv hE hS hA hK hP hD hrv_1) rfl rfl hl.1 rfl (lv_room (Nat.le_of_ble_eq_true rfl)) dX4_useOf_2 ⟨Nat.zero_le _, Nat.zero_le _⟩) hD hS hA (fun H locs hP hD hS => ?_)
  refine lv_if_eq (tgt := 17) hx hb dX4_useOf_5 (by decide) (fun c_3 => ?_) (fun c_3 => ?_)
  · have hF := zit c_3 hF
    refine lv_iconst (v := 0) hx hb dX4_useOf_17 (by decide) ?_
    obtain rfl := Option.some.inj hF
    exact hend _ _ _ _ hP hD hS dX4_useOf_18
  · have hF := zif c_3 hF
    refine lv_aload_n hx hb dX4_useOf_8 rfl (lv_at hl 0 rfl) ?_
    refine va_get (D := D) (ci := 3) (v := .ref (E.1 (13 + 11 * j + 4))) (C := RX4) (T := TX4) (N := 19) hx hb hts (zi iX4) hown hK hP (13 + 11 * j) (zg_L _ _ _ _ _ _ _ _ _ _ hj _) rfl 12 (by decide) (zh hts k0_131) (fun _ h9 => h9) rfl dX4_useOf_9 ?_
    refine lv_iload_n hx hb dX4_useOf_12 rfl (lv_at hl 1 rfl) ?_
    obtain ⟨g_4, hF⟩ := zgd hF
    refine ziald (v := L.1.2 12 x1.toNatClampNeg) hx hb hK hP (13 + 11 * j + 4) 1 (zg_L_12 _ _ _ _ _ _ _ _ _ _ hj _) rfl g_4 rfl dX4_useOf_13 ?_
    refine lv_goto (tgt := 18) hx hb dX4_useOf_14 (by decide) ?_
    obtain rfl := Option.some.inj hF
    exact hend _ _ _ _ hP hD hS dX4_useOf_18
def fX4_firstSale (N : Nat) (L : zLS) (x1 : Int32) : Option Int32 :=
  (fX4_isPiece N L x1).bind fun u_2 =>
  if u_2 = 0 then
    some (-1000000 : Int32)
  else
    if x1 < 0 ∨ 8 ≤ x1.toNatClampNeg then none else
    some (L.1.2 18 x1.toNatClampNeg)
set_option maxHeartbeats 4000000 in
set_option maxRecDepth 100000 in
theorem qX4_firstSale (l : Launch) (D : va_G) (E : zE) (KL : List Nat) (kc : Nat → zKC) (on : zNS) (rw rd ft tr : zOS) (la : Nat → zLS) (mo : zMS) (j : Nat) (hj : j < 5) (L : zLS) (N sz : Nat) (x1 : Int32) (out : Int32) (hF : fX4_firstSale N L x1 = some out) : zCi l yX4_firstSale zwX4_firstSale ({ frames := 1, cells := 0, slots := 0, locals := 21 }) [.ref (E.1 (13 + 11 * j)), .int x1] D E sz (zW E KL kc on rw rd ft tr (va_up la j L) mo) (zW E KL kc on rw rd ft tr (va_up la j L) mo) out 0 0 := by
  refine zent_i (cc := cX4_firstSale) (nL := 2) (by decide) rfl (Nat.le_of_ble_eq_true rfl) ?_
  intro p e s m args below meth c Q A hx hb hml hown hts hA hK hP hD hS hE ls hl hend
  have hown : s.vm.findClass RX4 = some m.cls := hown
  have hl : lv_has ls 2 [(0, .ref (E.1 (13 + 11 * j))), (1, .int x1)] := hl
  rw [fX4_firstSale] at hF
  refine lv_aload_n hx hb dX4_firstSale_0 rfl (lv_at hl 0 rfl) ?_
  refine lv_iload_n hx hb dX4_firstSale_1 rfl (lv_at hl 1 rfl) ?_
  have hrv_1 := (va_recv hK hP (ci := 3) (q0 := 13 + 11 * j) rfl (zg_L _ _ _ _ _ _ _ _ _ _ hj _))
  obtain ⟨u_2, hu_2, hF⟩ := zbd hF
  refine zcall_i (va_runV (As := [.int x1]) (rest := []) ⟨hx, hb, hml, hown, hts⟩ (qX4_isPiece l D E KL kc on rw rd ft tr la mo j hj L N _ x1 _ hu_2) (cwV 1 hts (zgV k2_173 k2_174 k2_175 k0_6 k2_176) rfl rfl rfl (by decide +kernel) ⟨Nat.le_of_ble_eq_true rfl, Nat.le_of_ble_eq_true rfl⟩) (zpv hE hS hA hK hP hD hrv_1) rfl rfl hl.1 rfl (lv_room (Nat.le_of_ble_eq_true rfl)) dX4_firstSale_2 ⟨Nat.zero_le _, Nat.zero_le _⟩) hD hS hA (fun H locs hP hD hS => ?_)
  refine lv_if_eq (tgt := 17) hx hb dX4_firstSale_5 (by decide) (fun c_3 => ?_) (fun c_3 => ?_)
  · have hF := zit c_3 hF
    refine lv_ldc (own := RX4) (v := -1000000) hx hb hown (zh hts k2_82) dX4_firstSale_17 ?_
    obtain rfl := Option.some.inj hF
    exact hend _ _ _ _ hP hD hS dX4_firstSale_19
  · have hF := zif c_3 hF
    refine lv_aload_n hx hb dX4_firstSale_8 rfl (lv_at hl 0 rfl) ?_
    refine va_get (D := D) (ci := 3) (v := .ref (E.1 (13 + 11 * j + 10))) (C := RX4) (T := TX4) (N := 19) hx hb hts (zi iX4) hown hK hP (13 + 11 * j) (zg_L _ _ _ _ _ _ _ _ _ _ hj _) rfl 18 (by decide) (zh hts k0_137) (fun _ h9 => h9) rfl dX4_firstSale_9 ?_
    refine lv_iload_n hx hb dX4_firstSale_12 rfl (lv_at hl 1 rfl) ?_
    obtain ⟨g_4, hF⟩ := zgd hF
    refine ziald (v := L.1.2 18 x1.toNatClampNeg) hx hb hK hP (13 + 11 * j + 10) 1 (zg_L_18 _ _ _ _ _ _ _ _ _ _ hj _) rfl g_4 rfl dX4_firstSale_13 ?_
    refine lv_goto (tgt := 19) hx hb dX4_firstSale_14 (by decide) ?_
    obtain rfl := Option.some.inj hF
    exact hend _ _ _ _ hP hD hS dX4_firstSale_19
def fX4_earnedBy (N : Nat) (L : zLS) (x1 : Int32) : Option Int32 :=
  (fX4_isKeeper N L x1).bind fun u_2 =>
  if u_2 = 0 then
    some (0 : Int32)
  else
    if x1 < 0 ∨ 6 ≤ x1.toNatClampNeg then none else
    some (L.1.2 15 x1.toNatClampNeg)
set_option maxHeartbeats 4000000 in
set_option maxRecDepth 100000 in
theorem qX4_earnedBy (l : Launch) (D : va_G) (E : zE) (KL : List Nat) (kc : Nat → zKC) (on : zNS) (rw rd ft tr : zOS) (la : Nat → zLS) (mo : zMS) (j : Nat) (hj : j < 5) (L : zLS) (N sz : Nat) (x1 : Int32) (out : Int32) (hF : fX4_earnedBy N L x1 = some out) : zCi l yX4_earnedBy zwX4_earnedBy ({ frames := 1, cells := 0, slots := 0, locals := 21 }) [.ref (E.1 (13 + 11 * j)), .int x1] D E sz (zW E KL kc on rw rd ft tr (va_up la j L) mo) (zW E KL kc on rw rd ft tr (va_up la j L) mo) out 0 0 := by
  refine zent_i (cc := cX4_earnedBy) (nL := 2) (by decide) rfl (Nat.le_of_ble_eq_true rfl) ?_
  intro p e s m args below meth c Q A hx hb hml hown hts hA hK hP hD hS hE ls hl hend
  have hown : s.vm.findClass RX4 = some m.cls := hown
  have hl : lv_has ls 2 [(0, .ref (E.1 (13 + 11 * j))), (1, .int x1)] := hl
  rw [fX4_earnedBy] at hF
  refine lv_aload_n hx hb dX4_earnedBy_0 rfl (lv_at hl 0 rfl) ?_
  refine lv_iload_n hx hb dX4_earnedBy_1 rfl (lv_at hl 1 rfl) ?_
  have hrv_1 := (va_recv hK hP (ci := 3) (q0 := 13 + 11 * j) rfl (zg_L _ _ _ _ _ _ _ _ _ _ hj _))
  obtain ⟨u_2, hu_2, hF⟩ := zbd hF
  refine zcall_i (va_runV (As := [.int x1]) (rest := []) ⟨hx, hb, hml, hown, hts⟩ (qX4_isKeeper l D E KL kc on rw rd ft tr la mo j hj L N _ x1 _ hu_2) (cwV 1 hts (zgV k2_169 k2_170 k2_171 k0_6 k2_172) rfl rfl rfl (by decide +kernel) ⟨Nat.le_of_ble_eq_true rfl, Nat.le_of_ble_eq_true rfl⟩) (zpv hE hS hA hK hP hD hrv_1) rfl rfl hl.1 rfl (lv_room (Nat.le_of_ble_eq_true rfl)) dX4_earnedBy_2 ⟨Nat.zero_le _, Nat.zero_le _⟩) hD hS hA (fun H locs hP hD hS => ?_)
  refine lv_if_eq (tgt := 17) hx hb dX4_earnedBy_5 (by decide) (fun c_3 => ?_) (fun c_3 => ?_)
  · have hF := zit c_3 hF
    refine lv_iconst (v := 0) hx hb dX4_earnedBy_17 (by decide) ?_
    obtain rfl := Option.some.inj hF
    exact hend _ _ _ _ hP hD hS dX4_earnedBy_18
  · have hF := zif c_3 hF
    refine lv_aload_n hx hb dX4_earnedBy_8 rfl (lv_at hl 0 rfl) ?_
    refine va_get (D := D) (ci := 3) (v := .ref (E.1 (13 + 11 * j + 7))) (C := RX4) (T := TX4) (N := 19) hx hb hts (zi iX4) hown hK hP (13 + 11 * j) (zg_L _ _ _ _ _ _ _ _ _ _ hj _) rfl 15 (by decide) (zh hts k0_134) (fun _ h9 => h9) rfl dX4_earnedBy_9 ?_
    refine lv_iload_n hx hb dX4_earnedBy_12 rfl (lv_at hl 1 rfl) ?_
    obtain ⟨g_4, hF⟩ := zgd hF
    refine ziald (v := L.1.2 15 x1.toNatClampNeg) hx hb hK hP (13 + 11 * j + 7) 1 (zg_L_15 _ _ _ _ _ _ _ _ _ _ hj _) rfl g_4 rfl dX4_earnedBy_13 ?_
    refine lv_goto (tgt := 18) hx hb dX4_earnedBy_14 (by decide) ?_
    obtain rfl := Option.some.inj hF
    exact hend _ _ _ _ hP hD hS dX4_earnedBy_18
def fX4_soldBy (N : Nat) (L : zLS) (x1 : Int32) : Option Int32 :=
  (fX4_isKeeper N L x1).bind fun u_2 =>
  if u_2 = 0 then
    some (0 : Int32)
  else
    if x1 < 0 ∨ 6 ≤ x1.toNatClampNeg then none else
    some (L.1.2 16 x1.toNatClampNeg)
set_option maxHeartbeats 4000000 in
set_option maxRecDepth 100000 in
theorem qX4_soldBy (l : Launch) (D : va_G) (E : zE) (KL : List Nat) (kc : Nat → zKC) (on : zNS) (rw rd ft tr : zOS) (la : Nat → zLS) (mo : zMS) (j : Nat) (hj : j < 5) (L : zLS) (N sz : Nat) (x1 : Int32) (out : Int32) (hF : fX4_soldBy N L x1 = some out) : zCi l yX4_soldBy zwX4_soldBy ({ frames := 1, cells := 0, slots := 0, locals := 21 }) [.ref (E.1 (13 + 11 * j)), .int x1] D E sz (zW E KL kc on rw rd ft tr (va_up la j L) mo) (zW E KL kc on rw rd ft tr (va_up la j L) mo) out 0 0 := by
  refine zent_i (cc := cX4_soldBy) (nL := 2) (by decide) rfl (Nat.le_of_ble_eq_true rfl) ?_
  intro p e s m args below meth c Q A hx hb hml hown hts hA hK hP hD hS hE ls hl hend
  have hown : s.vm.findClass RX4 = some m.cls := hown
  have hl : lv_has ls 2 [(0, .ref (E.1 (13 + 11 * j))), (1, .int x1)] := hl
  rw [fX4_soldBy] at hF
  refine lv_aload_n hx hb dX4_soldBy_0 rfl (lv_at hl 0 rfl) ?_
  refine lv_iload_n hx hb dX4_soldBy_1 rfl (lv_at hl 1 rfl) ?_
  have hrv_1 := (va_recv hK hP (ci := 3) (q0 := 13 + 11 * j) rfl (zg_L _ _ _ _ _ _ _ _ _ _ hj _))
  obtain ⟨u_2, hu_2, hF⟩ := zbd hF
  refine zcall_i (va_runV (As := [.int x1]) (rest := []) ⟨hx, hb, hml, hown, hts⟩ (qX4_isKeeper l D E KL kc on rw rd ft tr la mo j hj L N _ x1 _ hu_2) (cwV 1 hts (zgV k2_169 k2_170 k2_171 k0_6 k2_172) rfl rfl rfl (by decide +kernel) ⟨Nat.le_of_ble_eq_true rfl, Nat.le_of_ble_eq_true rfl⟩) (zpv hE hS hA hK hP hD hrv_1) rfl rfl hl.1 rfl (lv_room (Nat.le_of_ble_eq_true rfl)) dX4_soldBy_2 ⟨Nat.zero_le _, Nat.zero_le _⟩) hD hS hA (fun H locs hP hD hS => ?_)
  refine lv_if_eq (tgt := 17) hx hb dX4_soldBy_5 (by decide) (fun c_3 => ?_) (fun c_3 => ?_)
  · have hF := zit c_3 hF
    refine lv_iconst (v := 0) hx hb dX4_soldBy_17 (by decide) ?_
    obtain rfl := Option.some.inj hF
    exact hend _ _ _ _ hP hD hS dX4_soldBy_18
  · have hF := zif c_3 hF
    refine lv_aload_n hx hb dX4_soldBy_8 rfl (lv_at hl 0 rfl) ?_
    refine va_get (D := D) (ci := 3) (v := .ref (E.1 (13 + 11 * j + 8))) (C := RX4) (T := TX4) (N := 19) hx hb hts (zi iX4) hown hK hP (13 + 11 * j) (zg_L _ _ _ _ _ _ _ _ _ _ hj _) rfl 16 (by decide) (zh hts k0_135) (fun _ h9 => h9) rfl dX4_soldBy_9 ?_
    refine lv_iload_n hx hb dX4_soldBy_12 rfl (lv_at hl 1 rfl) ?_
    obtain ⟨g_4, hF⟩ := zgd hF
    refine ziald (v := L.1.2 16 x1.toNatClampNeg) hx hb hK hP (13 + 11 * j + 8) 1 (zg_L_16 _ _ _ _ _ _ _ _ _ _ hj _) rfl g_4 rfl dX4_soldBy_13 ?_
    refine lv_goto (tgt := 18) hx hb dX4_soldBy_14 (by decide) ?_
    obtain rfl := Option.some.inj hF
    exact hend _ _ _ _ hP hD hS dX4_soldBy_18
def fX4_piecesOf_l1 (N : Nat) (L_4 : zLS) (x1_1 : Int32) : Nat → Int32 → Int32 → Option Int32
  | 0, _, _ => none
  | n + 1, x2_2, x3_3 =>
    if (L_4.1.1 7) ≤ x3_3 then
      some x2_2
    else
      (fX4_countOf N L_4 x1_1 x3_3).bind fun u_7 =>
      fX4_piecesOf_l1 N L_4 x1_1 n (x2_2 + u_7) (x3_3 + (1 : Int32))
def fX4_piecesOf (N : Nat) (L : zLS) (x1 : Int32) : Option Int32 :=
  (fX4_piecesOf_l1 N L x1 N (0 : Int32) (0 : Int32)).bind (fun u_10 =>
    some u_10)
set_option maxHeartbeats 4000000 in
set_option maxRecDepth 100000 in
theorem qX4_piecesOf (l : Launch) (D : va_G) (E : zE) (KL : List Nat) (kc : Nat → zKC) (on : zNS) (rw rd ft tr : zOS) (la : Nat → zLS) (mo : zMS) (j : Nat) (hj : j < 5) (L : zLS) (N sz : Nat) (x1 : Int32) (out : Int32) (hF : fX4_piecesOf N L x1 = some out) : zCi l yX4_piecesOf zwX4_piecesOf ({ frames := 1, cells := 0, slots := 0, locals := 23 }) [.ref (E.1 (13 + 11 * j)), .int x1] D E sz (zW E KL kc on rw rd ft tr (va_up la j L) mo) (zW E KL kc on rw rd ft tr (va_up la j L) mo) out 0 0 := by
  refine zent_i (cc := cX4_piecesOf) (nL := 4) (by decide) rfl (Nat.le_of_ble_eq_true rfl) ?_
  intro p e s m args below meth c Q A hx hb hml hown hts hA hK hP hD hS hE ls hl hend
  have hown : s.vm.findClass RX4 = some m.cls := hown
  have hl : lv_has ls 4 [(0, .ref (E.1 (13 + 11 * j))), (1, .int x1)] := hl
  rw [fX4_piecesOf] at hF
  refine lv_iconst (v := 0) hx hb dX4_piecesOf_0 (by decide) ?_
  refine lv_istore_n (lv' := [(2, .int (0 : Int32)), (0, .ref (E.1 (13 + 11 * j))), (1, .int x1)]) hx hb dX4_piecesOf_1 rfl hl (by decide) rfl (fun ls hl => ?_)
  refine lv_iconst (v := 0) hx hb dX4_piecesOf_2 (by decide) ?_
  refine lv_istore_n (lv' := [(3, .int (0 : Int32)), (2, .int (0 : Int32)), (0, .ref (E.1 (13 + 11 * j))), (1, .int x1)]) hx hb dX4_piecesOf_3 rfl hl (by decide) rfl (fun ls hl => ?_)
  obtain ⟨o_8, ho_8, hF⟩ := zbd hF
  have kx_1_0 : ∀ (x2_9 : Int32), x2_9 = o_8 → ∀ (H : Heap) (locs : List Loc) (ls : Array Slot), va_P D vwCl (zW E KL kc on rw rd ft tr (va_up la j L) mo) H → va_D A (zW E KL kc on rw rd ft tr (va_up la j L) mo) → va_S A s.heap H locs → lv_has ls 4 [(2, .int x2_9)] → W p l e ({ frames := 1, cells := 0, slots := 0, locals := 23 } : Room) s m args below meth c H locs 0 0 Q (F0 m 27 ls []) := by
    intro x2_9 ho H locs ls hP hD hS hl
    subst ho
    refine lv_iload_n hx hb dX4_piecesOf_27 rfl (lv_at hl 0 rfl) ?_
    obtain rfl := Option.some.inj hF
    exact hend _ _ _ _ hP hD hS dX4_piecesOf_28
  have lp_1 : ∀ (L_4 : zLS) (x1_1 : Int32) (n : Nat) (x2_2 : Int32) (x3_3 : Int32) (o : Int32), fX4_piecesOf_l1 N L_4 x1_1 n x2_2 x3_3 = some o → (∀ (x2_9 : Int32), x2_9 = o → ∀ (H : Heap) (locs : List Loc) (ls : Array Slot), va_P D vwCl (zW E KL kc on rw rd ft tr (va_up la j L_4) mo) H → va_D A (zW E KL kc on rw rd ft tr (va_up la j L_4) mo) → va_S A s.heap H locs → lv_has ls 4 [(2, .int x2_9)] → W p l e ({ frames := 1, cells := 0, slots := 0, locals := 23 } : Room) s m args below meth c H locs 0 0 Q (F0 m 27 ls [])) → ∀ (H : Heap) (locs : List Loc) (ls : Array Slot), va_P D vwCl (zW E KL kc on rw rd ft tr (va_up la j L_4) mo) H → va_D A (zW E KL kc on rw rd ft tr (va_up la j L_4) mo) → va_S A s.heap H locs → lv_has ls 4 [(0, .ref (E.1 (13 + 11 * j))), (1, .int x1_1), (2, .int x2_2), (3, .int x3_3)] → W p l e ({ frames := 1, cells := 0, slots := 0, locals := 23 } : Room) s m args below meth c H locs 0 0 Q (F0 m 4 ls []) := by
    intro L_4 x1_1 n
    induction n with
    | zero =>
      intro x2_2 x3_3 o hF
      exact znone hF
    | succ n ih =>
      intro x2_2 x3_3 o hF kx_1_0 H locs ls hP hD hS hl
      rw [fX4_piecesOf_l1] at hF
      refine lv_iload_n hx hb dX4_piecesOf_4 rfl (lv_at hl 3 rfl) ?_
      refine lv_aload_n hx hb dX4_piecesOf_5 rfl (lv_at hl 0 rfl) ?_
      refine va_get (D := D) (ci := 3) (v := .int (L_4.1.1 7)) (C := RX4) (T := TX4) (N := 19) hx hb hts (zi iX4) hown hK hP (13 + 11 * j) (zg_L _ _ _ _ _ _ _ _ _ _ hj _) rfl 7 (by decide) (zh hts k0_121) (fun _ h9 => h9) rfl dX4_piecesOf_6 ?_
      refine lv_icmp_ge (tgt := 27) hx hb dX4_piecesOf_9 (by decide) (fun c_5 => ?_) (fun c_5 => ?_)
      · have hF := zit c_5 hF
        exact kx_1_0 x2_2 (Option.some.inj hF) _ _ _ hP hD hS (lv_sub hl [2] rfl)
      · have hF := zif c_5 hF
        refine lv_iload_n hx hb dX4_piecesOf_12 rfl (lv_at hl 2 rfl) ?_
        refine lv_aload_n hx hb dX4_piecesOf_13 rfl (lv_at hl 0 rfl) ?_
        refine lv_iload_n hx hb dX4_piecesOf_14 rfl (lv_at hl 1 rfl) ?_
        refine lv_iload_n hx hb dX4_piecesOf_15 rfl (lv_at hl 3 rfl) ?_
        have hrv_6 := (va_recv hK hP (ci := 3) (q0 := 13 + 11 * j) rfl (zg_L _ _ _ _ _ _ _ _ _ _ hj _))
        obtain ⟨u_7, hu_7, hF⟩ := zbd hF
        refine zcall_i (va_runV (As := [.int x1_1, .int x3_3]) (rest := [.int x2_2]) ⟨hx, hb, hml, hown, hts⟩ (qX4_countOf l D E KL kc on rw rd ft tr la mo j hj L_4 N _ x1_1 x3_3 _ hu_7) (cwV 2 hts (zgV k2_133 k2_134 k2_135 k0_6 k2_136) rfl rfl rfl (by decide +kernel) ⟨Nat.le_of_ble_eq_true rfl, Nat.le_of_ble_eq_true rfl⟩) (zpv hE hS hA hK hP hD hrv_6) rfl rfl hl.1 rfl (lv_room (Nat.le_of_ble_eq_true rfl)) dX4_piecesOf_16 ⟨Nat.zero_le _, Nat.zero_le _⟩) hD hS hA (fun H locs hP hD hS => ?_)
        refine lv_iadd hx hb dX4_piecesOf_19 ?_
        refine lv_istore_n (lv' := [(2, .int (x2_2 + u_7)), (0, .ref (E.1 (13 + 11 * j))), (1, .int x1_1), (3, .int x3_3)]) hx hb dX4_piecesOf_20 rfl hl (by decide) rfl (fun ls hl => ?_)
        refine lv_iinc (v := x3_3 + (1 : Int32)) (lv' := [(3, .int (x3_3 + (1 : Int32))), (2, .int (x2_2 + u_7)), (0, .ref (E.1 (13 + 11 * j))), (1, .int x1_1)]) hx hb dX4_piecesOf_21 hl (k := 3) rfl rfl (by decide) rfl (fun ls hl => ?_)
        refine lv_goto (tgt := 4) hx hb dX4_piecesOf_24 (by decide) ?_
        exact ih (x2_2 + u_7) (x3_3 + (1 : Int32)) _ hF kx_1_0 _ _ _ hP hD hS (lv_sub hl [2, 3, 1, 0] rfl)
  exact lp_1 L x1 N (0 : Int32) (0 : Int32) _ ho_8 kx_1_0 _ _ _ hP hD hS (lv_sub hl [2, 3, 1, 0] rfl)
def fX4_earnedByAll_l1 (N : Nat) (L_3 : zLS) : Nat → Int32 → Int32 → Option Int32
  | 0, _, _ => none
  | n + 1, x1_1, x2_2 =>
    if (L_3.1.1 6) ≤ x2_2 then
      some x1_1
    else
      (fX4_earnedBy N L_3 x2_2).bind fun u_6 =>
      fX4_earnedByAll_l1 N L_3 n (x1_1 + u_6) (x2_2 + (1 : Int32))
def fX4_earnedByAll (N : Nat) (L : zLS) : Option Int32 :=
  (fX4_earnedByAll_l1 N L N (0 : Int32) (0 : Int32)).bind (fun u_9 =>
    some u_9)
set_option maxHeartbeats 4000000 in
set_option maxRecDepth 100000 in
theorem qX4_earnedByAll (l : Launch) (D : va_G) (E : zE) (KL : List Nat) (kc : Nat → zKC) (on : zNS) (rw rd ft tr : zOS) (la : Nat → zLS) (mo : zMS) (j : Nat) (hj : j < 5) (L : zLS) (N sz : Nat)  (out : Int32) (hF : fX4_earnedByAll N L = some out) : zCi l yX4_earnedByAll zwX4_earnedByAll ({ frames := 2, cells := 0, slots := 0, locals := 42 }) [.ref (E.1 (13 + 11 * j))] D E sz (zW E KL kc on rw rd ft tr (va_up la j L) mo) (zW E KL kc on rw rd ft tr (va_up la j L) mo) out 0 0 := by
  refine zent_i (cc := cX4_earnedByAll) (nL := 3) (by decide) rfl (Nat.le_of_ble_eq_true rfl) ?_
  intro p e s m args below meth c Q A hx hb hml hown hts hA hK hP hD hS hE ls hl hend
  have hown : s.vm.findClass RX4 = some m.cls := hown
  have hl : lv_has ls 3 [(0, .ref (E.1 (13 + 11 * j)))] := hl
  rw [fX4_earnedByAll] at hF
  refine lv_iconst (v := 0) hx hb dX4_earnedByAll_0 (by decide) ?_
  refine lv_istore_n (lv' := [(1, .int (0 : Int32)), (0, .ref (E.1 (13 + 11 * j)))]) hx hb dX4_earnedByAll_1 rfl hl (by decide) rfl (fun ls hl => ?_)
  refine lv_iconst (v := 0) hx hb dX4_earnedByAll_2 (by decide) ?_
  refine lv_istore_n (lv' := [(2, .int (0 : Int32)), (1, .int (0 : Int32)), (0, .ref (E.1 (13 + 11 * j)))]) hx hb dX4_earnedByAll_3 rfl hl (by decide) rfl (fun ls hl => ?_)
  obtain ⟨o_7, ho_7, hF⟩ := zbd hF
  have kx_1_0 : ∀ (x1_8 : Int32), x1_8 = o_7 → ∀ (H : Heap) (locs : List Loc) (ls : Array Slot), va_P D vwCl (zW E KL kc on rw rd ft tr (va_up la j L) mo) H → va_D A (zW E KL kc on rw rd ft tr (va_up la j L) mo) → va_S A s.heap H locs → lv_has ls 3 [(1, .int x1_8)] → W p l e ({ frames := 2, cells := 0, slots := 0, locals := 42 } : Room) s m args below meth c H locs 0 0 Q (F0 m 26 ls []) := by
    intro x1_8 ho H locs ls hP hD hS hl
    subst ho
    refine lv_iload_n hx hb dX4_earnedByAll_26 rfl (lv_at hl 0 rfl) ?_
    obtain rfl := Option.some.inj hF
    exact hend _ _ _ _ hP hD hS dX4_earnedByAll_27
  have lp_1 : ∀ (L_3 : zLS) (n : Nat) (x1_1 : Int32) (x2_2 : Int32) (o : Int32), fX4_earnedByAll_l1 N L_3 n x1_1 x2_2 = some o → (∀ (x1_8 : Int32), x1_8 = o → ∀ (H : Heap) (locs : List Loc) (ls : Array Slot), va_P D vwCl (zW E KL kc on rw rd ft tr (va_up la j L_3) mo) H → va_D A (zW E KL kc on rw rd ft tr (va_up la j L_3) mo) → va_S A s.heap H locs → lv_has ls 3 [(1, .int x1_8)] → W p l e ({ frames := 2, cells := 0, slots := 0, locals := 42 } : Room) s m args below meth c H locs 0 0 Q (F0 m 26 ls [])) → ∀ (H : Heap) (locs : List Loc) (ls : Array Slot), va_P D vwCl (zW E KL kc on rw rd ft tr (va_up la j L_3) mo) H → va_D A (zW E KL kc on rw rd ft tr (va_up la j L_3) mo) → va_S A s.heap H locs → lv_has ls 3 [(0, .ref (E.1 (13 + 11 * j))), (1, .int x1_1), (2, .int x2_2)] → W p l e ({ frames := 2, cells := 0, slots := 0, locals := 42 } : Room) s m args below meth c H locs 0 0 Q (F0 m 4 ls []) := by
    intro L_3 n
    induction n with
    | zero =>
      intro x1_1 x2_2 o hF
      exact znone hF
    | succ n ih =>
      intro x1_1 x2_2 o hF kx_1_0 H locs ls hP hD hS hl
      rw [fX4_earnedByAll_l1] at hF
      refine lv_iload_n hx hb dX4_earnedByAll_4 rfl (lv_at hl 2 rfl) ?_
      refine lv_aload_n hx hb dX4_earnedByAll_5 rfl (lv_at hl 0 rfl) ?_
      refine va_get (D := D) (ci := 3) (v := .int (L_3.1.1 6)) (C := RX4) (T := TX4) (N := 19) hx hb hts (zi iX4) hown hK hP (13 + 11 * j) (zg_L _ _ _ _ _ _ _ _ _ _ hj _) rfl 6 (by decide) (zh hts k0_116) (fun _ h9 => h9) rfl dX4_earnedByAll_6 ?_
      refine lv_icmp_ge (tgt := 26) hx hb dX4_earnedByAll_9 (by decide) (fun c_4 => ?_) (fun c_4 => ?_)
      · have hF := zit c_4 hF
        exact kx_1_0 x1_1 (Option.some.inj hF) _ _ _ hP hD hS (lv_sub hl [1] rfl)
      · have hF := zif c_4 hF
        refine lv_iload_n hx hb dX4_earnedByAll_12 rfl (lv_at hl 1 rfl) ?_
        refine lv_aload_n hx hb dX4_earnedByAll_13 rfl (lv_at hl 0 rfl) ?_
        refine lv_iload_n hx hb dX4_earnedByAll_14 rfl (lv_at hl 2 rfl) ?_
        have hrv_5 := (va_recv hK hP (ci := 3) (q0 := 13 + 11 * j) rfl (zg_L _ _ _ _ _ _ _ _ _ _ hj _))
        obtain ⟨u_6, hu_6, hF⟩ := zbd hF
        refine zcall_i (va_runV (As := [.int x2_2]) (rest := [.int x1_1]) ⟨hx, hb, hml, hown, hts⟩ (qX4_earnedBy l D E KL kc on rw rd ft tr la mo j hj L_3 N _ x2_2 _ hu_6) (cwV 1 hts (zgV k3_160 k2_224 k2_225 k0_6 k2_226) rfl rfl rfl (by decide +kernel) ⟨Nat.le_of_ble_eq_true rfl, Nat.le_of_ble_eq_true rfl⟩) (zpv hE hS hA hK hP hD hrv_5) rfl rfl hl.1 rfl (lv_room (Nat.le_of_ble_eq_true rfl)) dX4_earnedByAll_15 ⟨Nat.zero_le _, Nat.zero_le _⟩) hD hS hA (fun H locs hP hD hS => ?_)
        refine lv_iadd hx hb dX4_earnedByAll_18 ?_
        refine lv_istore_n (lv' := [(1, .int (x1_1 + u_6)), (0, .ref (E.1 (13 + 11 * j))), (2, .int x2_2)]) hx hb dX4_earnedByAll_19 rfl hl (by decide) rfl (fun ls hl => ?_)
        refine lv_iinc (v := x2_2 + (1 : Int32)) (lv' := [(2, .int (x2_2 + (1 : Int32))), (1, .int (x1_1 + u_6)), (0, .ref (E.1 (13 + 11 * j)))]) hx hb dX4_earnedByAll_20 hl (k := 2) rfl rfl (by decide) rfl (fun ls hl => ?_)
        refine lv_goto (tgt := 4) hx hb dX4_earnedByAll_23 (by decide) ?_
        exact ih (x1_1 + u_6) (x2_2 + (1 : Int32)) _ hF kx_1_0 _ _ _ hP hD hS (lv_sub hl [2, 1, 0] rfl)
  exact lp_1 L N (0 : Int32) (0 : Int32) _ ho_7 kx_1_0 _ _ _ hP hD hS (lv_sub hl [2, 1, 0] rfl)
def fX4_addOne (N : Nat) (L : zLS) (x1 : Int32) (x2 : Int32) : Option (Int32 × zLS) :=
  (fX4_isKeeper N L x1).bind fun u_2 =>
  if u_2 = 0 then
    (fX4_countOf N L x1 x2).bind fun u_5 =>
    some (u_5, L)
  else
    (fX4_isPiece N L x2).bind fun u_7 =>
    if u_7 = 0 then
      (fX4_countOf N L x1 x2).bind fun u_10 =>
      some (u_10, L)
    else
      if ((x1 * (8 : Int32)) + x2) < 0 ∨ 48 ≤ ((x1 * (8 : Int32)) + x2).toNatClampNeg then none else
      if ((x1 * (8 : Int32)) + x2) < 0 ∨ 48 ≤ ((x1 * (8 : Int32)) + x2).toNatClampNeg then none else
      (fX4_countOf N (zLA L 14 (upd (L.1.2 14) (((x1 * (8 : Int32)) + x2).toNatClampNeg) ((L.1.2 14 (((x1 * (8 : Int32)) + x2).toNatClampNeg)) + (1 : Int32)))) x1 x2).bind fun u_14 =>
      some (u_14, zLA L 14 (upd (L.1.2 14) (((x1 * (8 : Int32)) + x2).toNatClampNeg) ((L.1.2 14 (((x1 * (8 : Int32)) + x2).toNatClampNeg)) + (1 : Int32))))
set_option maxHeartbeats 4000000 in
set_option maxRecDepth 100000 in
theorem qX4_addOne (l : Launch) (D : va_G) (E : zE) (KL : List Nat) (kc : Nat → zKC) (on : zNS) (rw rd ft tr : zOS) (la : Nat → zLS) (mo : zMS) (j : Nat) (hj : j < 5) (L : zLS) (N sz : Nat) (x1 : Int32) (x2 : Int32) (out : Int32 × zLS) (hF : fX4_addOne N L x1 x2 = some out) : zCi l yX4_addOne zwX4_addOne ({ frames := 1, cells := 0, slots := 0, locals := 23 }) [.ref (E.1 (13 + 11 * j)), .int x1, .int x2] D E sz (zW E KL kc on rw rd ft tr (va_up la j L) mo) (zW E KL kc on rw rd ft tr (va_up la j out.2) mo) out.1 0 0 := by
  refine zent_i (cc := cX4_addOne) (nL := 3) (by decide) rfl (Nat.le_of_ble_eq_true rfl) ?_
  intro p e s m args below meth c Q A hx hb hml hown hts hA hK hP hD hS hE ls hl hend
  have hown : s.vm.findClass RX4 = some m.cls := hown
  have hl : lv_has ls 3 [(0, .ref (E.1 (13 + 11 * j))), (1, .int x1), (2, .int x2)] := hl
  rw [fX4_addOne] at hF
  refine lv_aload_n hx hb dX4_addOne_0 rfl (lv_at hl 0 rfl) ?_
  refine lv_iload_n hx hb dX4_addOne_1 rfl (lv_at hl 1 rfl) ?_
  have hrv_1 := (va_recv hK hP (ci := 3) (q0 := 13 + 11 * j) rfl (zg_L _ _ _ _ _ _ _ _ _ _ hj _))
  obtain ⟨u_2, hu_2, hF⟩ := zbd hF
  refine zcall_i (va_runV (As := [.int x1]) (rest := []) ⟨hx, hb, hml, hown, hts⟩ (qX4_isKeeper l D E KL kc on rw rd ft tr la mo j hj L N _ x1 _ hu_2) (cwV 1 hts (zgV k2_169 k2_170 k2_171 k0_6 k2_172) rfl rfl rfl (by decide +kernel) ⟨Nat.le_of_ble_eq_true rfl, Nat.le_of_ble_eq_true rfl⟩) (zpv hE hS hA hK hP hD hrv_1) rfl rfl hl.1 rfl (lv_room (Nat.le_of_ble_eq_true rfl)) dX4_addOne_2 ⟨Nat.zero_le _, Nat.zero_le _⟩) hD hS hA (fun H locs hP hD hS => ?_)
  refine lv_if_eq (tgt := 31) hx hb dX4_addOne_5 (by decide) (fun c_3 => ?_) (fun c_3 => ?_)
  · have hF := zit c_3 hF
    refine lv_aload_n hx hb dX4_addOne_31 rfl (lv_at hl 0 rfl) ?_
    refine lv_iload_n hx hb dX4_addOne_32 rfl (lv_at hl 1 rfl) ?_
    refine lv_iload_n hx hb dX4_addOne_33 rfl (lv_at hl 2 rfl) ?_
    have hrv_4 := (va_recv hK hP (ci := 3) (q0 := 13 + 11 * j) rfl (zg_L _ _ _ _ _ _ _ _ _ _ hj _))
    obtain ⟨u_5, hu_5, hF⟩ := zbd hF
    refine zcall_i (va_runV (As := [.int x1, .int x2]) (rest := []) ⟨hx, hb, hml, hown, hts⟩ (qX4_countOf l D E KL kc on rw rd ft tr la mo j hj L N _ x1 x2 _ hu_5) (cwV 2 hts (zgV k2_133 k2_134 k2_135 k0_6 k2_136) rfl rfl rfl (by decide +kernel) ⟨Nat.le_of_ble_eq_true rfl, Nat.le_of_ble_eq_true rfl⟩) (zpv hE hS hA hK hP hD hrv_4) rfl rfl hl.1 rfl (lv_room (Nat.le_of_ble_eq_true rfl)) dX4_addOne_34 ⟨Nat.zero_le _, Nat.zero_le _⟩) hD hS hA (fun H locs hP hD hS => ?_)
    obtain rfl := Option.some.inj hF
    exact hend _ _ _ _ hP hD hS dX4_addOne_37
  · have hF := zif c_3 hF
    refine lv_aload_n hx hb dX4_addOne_8 rfl (lv_at hl 0 rfl) ?_
    refine lv_iload_n hx hb dX4_addOne_9 rfl (lv_at hl 2 rfl) ?_
    have hrv_6 := (va_recv hK hP (ci := 3) (q0 := 13 + 11 * j) rfl (zg_L _ _ _ _ _ _ _ _ _ _ hj _))
    obtain ⟨u_7, hu_7, hF⟩ := zbd hF
    refine zcall_i (va_runV (As := [.int x2]) (rest := []) ⟨hx, hb, hml, hown, hts⟩ (qX4_isPiece l D E KL kc on rw rd ft tr la mo j hj L N _ x2 _ hu_7) (cwV 1 hts (zgV k2_173 k2_174 k2_175 k0_6 k2_176) rfl rfl rfl (by decide +kernel) ⟨Nat.le_of_ble_eq_true rfl, Nat.le_of_ble_eq_true rfl⟩) (zpv hE hS hA hK hP hD hrv_6) rfl rfl hl.1 rfl (lv_room (Nat.le_of_ble_eq_true rfl)) dX4_addOne_10 ⟨Nat.zero_le _, Nat.zero_le _⟩) hD hS hA (fun H locs hP hD hS => ?_)
    refine lv_if_eq (tgt := 31) hx hb dX4_addOne_13 (by decide) (fun c_8 => ?_) (fun c_8 => ?_)
    · have hF := zit c_8 hF
      refine lv_aload_n hx hb dX4_addOne_31 rfl (lv_at hl 0 rfl) ?_
      refine lv_iload_n hx hb dX4_addOne_32 rfl (lv_at hl 1 rfl) ?_
      refine lv_iload_n hx hb dX4_addOne_33 rfl (lv_at hl 2 rfl) ?_
      have hrv_9 := (va_recv hK hP (ci := 3) (q0 := 13 + 11 * j) rfl (zg_L _ _ _ _ _ _ _ _ _ _ hj _))
      obtain ⟨u_10, hu_10, hF⟩ := zbd hF
      refine zcall_i (va_runV (As := [.int x1, .int x2]) (rest := []) ⟨hx, hb, hml, hown, hts⟩ (qX4_countOf l D E KL kc on rw rd ft tr la mo j hj L N _ x1 x2 _ hu_10) (cwV 2 hts (zgV k2_133 k2_134 k2_135 k0_6 k2_136) rfl rfl rfl (by decide +kernel) ⟨Nat.le_of_ble_eq_true rfl, Nat.le_of_ble_eq_true rfl⟩) (zpv hE hS hA hK hP hD hrv_9) rfl rfl hl.1 rfl (lv_room (Nat.le_of_ble_eq_true rfl)) dX4_addOne_34 ⟨Nat.zero_le _, Nat.zero_le _⟩) hD hS hA (fun H locs hP hD hS => ?_)
      obtain rfl := Option.some.inj hF
      exact hend _ _ _ _ hP hD hS dX4_addOne_37
    · have hF := zif c_8 hF
      refine lv_aload_n hx hb dX4_addOne_16 rfl (lv_at hl 0 rfl) ?_
      refine va_get (D := D) (ci := 3) (v := .ref (E.1 (13 + 11 * j + 6))) (C := RX4) (T := TX4) (N := 19) hx hb hts (zi iX4) hown hK hP (13 + 11 * j) (zg_L _ _ _ _ _ _ _ _ _ _ hj _) rfl 14 (by decide) (zh hts k0_133) (fun _ h9 => h9) rfl dX4_addOne_17 ?_
      refine lv_iload_n hx hb dX4_addOne_20 rfl (lv_at hl 1 rfl) ?_
      refine lv_bipush (v := 8) hx hb dX4_addOne_21 (by decide) ?_
      refine lv_imul hx hb dX4_addOne_23 ?_
      refine lv_iload_n hx hb dX4_addOne_24 rfl (lv_at hl 2 rfl) ?_
      refine lv_iadd hx hb dX4_addOne_25 ?_
      refine lv_dup2_11 hx hb dX4_addOne_26 rfl rfl ?_
      obtain ⟨g_11, hF⟩ := zgd hF
      refine ziald (v := L.1.2 14 (((x1 * (8 : Int32)) + x2).toNatClampNeg)) hx hb hK hP (13 + 11 * j + 6) 1 (zg_L_14 _ _ _ _ _ _ _ _ _ _ hj _) rfl g_11 rfl dX4_addOne_27 ?_
      refine lv_iconst (v := 1) hx hb dX4_addOne_28 (by decide) ?_
      refine lv_iadd hx hb dX4_addOne_29 ?_
      obtain ⟨g_12, hF⟩ := zgd hF
      refine va_iast hx hb hK hP hD hS (13 + 11 * j + 6) 1 (zg_L_14 _ _ _ _ _ _ _ _ _ _ hj _) rfl g_12 dX4_addOne_30 (fun H locs hP hD hS => ?_)
      rw [zs_L_14 _ _ _ _ _ _ _ _ _ _ hj] at hP hD
      have hP : va_P D vwCl (zW E KL kc on rw rd ft tr (va_up la j (zLA L 14 (upd (L.1.2 14) (((x1 * (8 : Int32)) + x2).toNatClampNeg) ((L.1.2 14 (((x1 * (8 : Int32)) + x2).toNatClampNeg)) + (1 : Int32))))) mo) H := hP
      have hD : va_D A (zW E KL kc on rw rd ft tr (va_up la j (zLA L 14 (upd (L.1.2 14) (((x1 * (8 : Int32)) + x2).toNatClampNeg) ((L.1.2 14 (((x1 * (8 : Int32)) + x2).toNatClampNeg)) + (1 : Int32))))) mo) := hD
      refine lv_aload_n hx hb dX4_addOne_31 rfl (lv_at hl 0 rfl) ?_
      refine lv_iload_n hx hb dX4_addOne_32 rfl (lv_at hl 1 rfl) ?_
      refine lv_iload_n hx hb dX4_addOne_33 rfl (lv_at hl 2 rfl) ?_
      have hrv_13 := (va_recv hK hP (ci := 3) (q0 := 13 + 11 * j) rfl (zg_L _ _ _ _ _ _ _ _ _ _ hj _))
      obtain ⟨u_14, hu_14, hF⟩ := zbd hF
      refine zcall_i (va_runV (As := [.int x1, .int x2]) (rest := []) ⟨hx, hb, hml, hown, hts⟩ (qX4_countOf l D E KL kc on rw rd ft tr la mo j hj (zLA L 14 (upd (L.1.2 14) (((x1 * (8 : Int32)) + x2).toNatClampNeg) ((L.1.2 14 (((x1 * (8 : Int32)) + x2).toNatClampNeg)) + (1 : Int32)))) N _ x1 x2 _ hu_14) (cwV 2 hts (zgV k2_133 k2_134 k2_135 k0_6 k2_136) rfl rfl rfl (by decide +kernel) ⟨Nat.le_of_ble_eq_true rfl, Nat.le_of_ble_eq_true rfl⟩) (zpv hE hS hA hK hP hD hrv_13) rfl rfl hl.1 rfl (lv_room (Nat.le_of_ble_eq_true rfl)) dX4_addOne_34 ⟨Nat.zero_le _, Nat.zero_le _⟩) hD hS hA (fun H locs hP hD hS => ?_)
      obtain rfl := Option.some.inj hF
      exact hend _ _ _ _ hP hD hS dX4_addOne_37
def fX4_loseByChance_l6 (N : Nat) (x3_14 : Int32) (x4_15 : Int32) (x5_16 : Int32) : Nat → Int32 → Int32 → zLS → Option (Int32 × zLS)
  | 0, _, _, _ => none
  | n + 1, x2_13, x6_17, L_18 =>
    if x5_16 ≤ x6_17 then
      some (x2_13, L_18)
    else
      if (L_18.1.1 3) ≤ ((((x2_13.toInt64 * (16807 : Int64)) - (x2_13.toInt64 * (16807 : Int64)) / (2147483647 : Int64) * (2147483647 : Int64)).toInt32) - (((x2_13.toInt64 * (16807 : Int64)) - (x2_13.toInt64 * (16807 : Int64)) / (2147483647 : Int64) * (2147483647 : Int64)).toInt32) / (1000 : Int32) * (1000 : Int32)) then
        fX4_loseByChance_l6 N x3_14 x4_15 x5_16 n (((x2_13.toInt64 * (16807 : Int64)) - (x2_13.toInt64 * (16807 : Int64)) / (2147483647 : Int64) * (2147483647 : Int64)).toInt32) (x6_17 + (1 : Int32)) L_18
      else
        if ((x3_14 * (8 : Int32)) + x4_15) < 0 ∨ 48 ≤ ((x3_14 * (8 : Int32)) + x4_15).toNatClampNeg then none else
        if ((x3_14 * (8 : Int32)) + x4_15) < 0 ∨ 48 ≤ ((x3_14 * (8 : Int32)) + x4_15).toNatClampNeg then none else
        fX4_loseByChance_l6 N x3_14 x4_15 x5_16 n (((x2_13.toInt64 * (16807 : Int64)) - (x2_13.toInt64 * (16807 : Int64)) / (2147483647 : Int64) * (2147483647 : Int64)).toInt32) (x6_17 + (1 : Int32)) (zLA L_18 14 (upd (L_18.1.2 14) (((x3_14 * (8 : Int32)) + x4_15).toNatClampNeg) ((L_18.1.2 14 (((x3_14 * (8 : Int32)) + x4_15).toNatClampNeg)) - (1 : Int32))))
def fX4_loseByChance_l5 (N : Nat) (x3_7 : Int32) : Nat → Int32 → Int32 → zLS → Option (Int32 × zLS)
  | 0, _, _, _ => none
  | n + 1, x2_6, x4_8, L_9 =>
    if (L_9.1.1 7) ≤ x4_8 then
      some (x2_6, L_9)
    else
      if (8 : Int32) ≤ x4_8 then
        some (x2_6, L_9)
      else
        if ((x3_7 * (8 : Int32)) + x4_8) < 0 ∨ 48 ≤ ((x3_7 * (8 : Int32)) + x4_8).toNatClampNeg then none else
        (fX4_loseByChance_l6 N x3_7 x4_8 (L_9.1.2 14 (((x3_7 * (8 : Int32)) + x4_8).toNatClampNeg)) N x2_6 (0 : Int32) L_9).bind (fun u_26 =>
          fX4_loseByChance_l5 N x3_7 n u_26.1 (x4_8 + (1 : Int32)) u_26.2)
def fX4_loseByChance_l3 (N : Nat) : Nat → Int32 → Int32 → zLS → Option (Int32 × zLS)
  | 0, _, _, _ => none
  | n + 1, x2_1, x3_2, L_3 =>
    if (L_3.1.1 6) ≤ x3_2 then
      some (x2_1, L_3)
    else
      if (6 : Int32) ≤ x3_2 then
        some (x2_1, L_3)
      else
        (fX4_loseByChance_l5 N x3_2 N x2_1 (0 : Int32) L_3).bind (fun u_30 =>
          fX4_loseByChance_l3 N n u_30.1 (x3_2 + (1 : Int32)) u_30.2)
def fX4_loseByChance (N : Nat) (L : zLS) (x1 : Int32) : Option (Int32 × zLS) :=
  (fX4_loseByChance_l3 N N x1 (0 : Int32) L).bind (fun u_34 =>
    some (u_34.1, u_34.2))
set_option maxHeartbeats 4000000 in
set_option maxRecDepth 100000 in
theorem qX4_loseByChance (l : Launch) (D : va_G) (E : zE) (KL : List Nat) (kc : Nat → zKC) (on : zNS) (rw rd ft tr : zOS) (la : Nat → zLS) (mo : zMS) (j : Nat) (hj : j < 5) (L : zLS) (N sz : Nat) (x1 : Int32) (out : Int32 × zLS) (hF : fX4_loseByChance N L x1 = some out) : zCi l yX4_loseByChance zwX4_loseByChance ({ frames := 0, cells := 0, slots := 0, locals := 0 }) [.ref (E.1 (13 + 11 * j)), .int x1] D E sz (zW E KL kc on rw rd ft tr (va_up la j L) mo) (zW E KL kc on rw rd ft tr (va_up la j out.2) mo) out.1 0 0 := by
  refine zent_i (cc := cX4_loseByChance) (nL := 7) (by decide) rfl (Nat.le_of_ble_eq_true rfl) ?_
  intro p e s m args below meth c Q A hx hb hml hown hts hA hK hP hD hS hE ls hl hend
  have hown : s.vm.findClass RX4 = some m.cls := hown
  have hl : lv_has ls 7 [(0, .ref (E.1 (13 + 11 * j))), (1, .int x1)] := hl
  rw [fX4_loseByChance] at hF
  refine lv_iload_n hx hb dX4_loseByChance_0 rfl (lv_at hl 1 rfl) ?_
  refine lv_istore_n (lv' := [(2, .int x1), (0, .ref (E.1 (13 + 11 * j))), (1, .int x1)]) hx hb dX4_loseByChance_1 rfl hl (by decide) rfl (fun ls hl => ?_)
  refine lv_iconst (v := 0) hx hb dX4_loseByChance_2 (by decide) ?_
  refine lv_istore_n (lv' := [(3, .int (0 : Int32)), (2, .int x1), (0, .ref (E.1 (13 + 11 * j))), (1, .int x1)]) hx hb dX4_loseByChance_3 rfl hl (by decide) rfl (fun ls hl => ?_)
  obtain ⟨o_31, ho_31, hF⟩ := zbd hF
  have kx_3_0 : ∀ (x2_32 : Int32) (L_33 : zLS), (x2_32, L_33) = o_31 → ∀ (H : Heap) (locs : List Loc) (ls : Array Slot), va_P D vwCl (zW E KL kc on rw rd ft tr (va_up la j L_33) mo) H → va_D A (zW E KL kc on rw rd ft tr (va_up la j L_33) mo) → va_S A s.heap H locs → lv_has ls 7 [(2, .int x2_32)] → W p l e ({ frames := 0, cells := 0, slots := 0, locals := 0 } : Room) s m args below meth c H locs 0 0 Q (F0 m 119 ls []) := by
    intro x2_32 L_33 ho H locs ls hP hD hS hl
    subst ho
    refine lv_iload_n hx hb dX4_loseByChance_119 rfl (lv_at hl 0 rfl) ?_
    obtain rfl := Option.some.inj hF
    exact hend _ _ _ _ hP hD hS dX4_loseByChance_120
  have lp_3 : ∀ (n : Nat) (x2_1 : Int32) (x3_2 : Int32) (L_3 : zLS) (o : (Int32 × zLS)), fX4_loseByChance_l3 N n x2_1 x3_2 L_3 = some o → (∀ (x2_32 : Int32) (L_33 : zLS), (x2_32, L_33) = o → ∀ (H : Heap) (locs : List Loc) (ls : Array Slot), va_P D vwCl (zW E KL kc on rw rd ft tr (va_up la j L_33) mo) H → va_D A (zW E KL kc on rw rd ft tr (va_up la j L_33) mo) → va_S A s.heap H locs → lv_has ls 7 [(2, .int x2_32)] → W p l e ({ frames := 0, cells := 0, slots := 0, locals := 0 } : Room) s m args below meth c H locs 0 0 Q (F0 m 119 ls [])) → ∀ (H : Heap) (locs : List Loc) (ls : Array Slot), va_P D vwCl (zW E KL kc on rw rd ft tr (va_up la j L_3) mo) H → va_D A (zW E KL kc on rw rd ft tr (va_up la j L_3) mo) → va_S A s.heap H locs → lv_has ls 7 [(0, .ref (E.1 (13 + 11 * j))), (2, .int x2_1), (3, .int x3_2)] → W p l e ({ frames := 0, cells := 0, slots := 0, locals := 0 } : Room) s m args below meth c H locs 0 0 Q (F0 m 4 ls []) := by
    intro n
    induction n with
    | zero =>
      intro x2_1 x3_2 L_3 o hF
      exact znone hF
    | succ n ih =>
      intro x2_1 x3_2 L_3 o hF kx_3_0 H locs ls hP hD hS hl
      rw [fX4_loseByChance_l3] at hF
      refine lv_iload_n hx hb dX4_loseByChance_4 rfl (lv_at hl 2 rfl) ?_
      refine lv_aload_n hx hb dX4_loseByChance_5 rfl (lv_at hl 0 rfl) ?_
      refine va_get (D := D) (ci := 3) (v := .int (L_3.1.1 6)) (C := RX4) (T := TX4) (N := 19) hx hb hts (zi iX4) hown hK hP (13 + 11 * j) (zg_L _ _ _ _ _ _ _ _ _ _ hj _) rfl 6 (by decide) (zh hts k0_116) (fun _ h9 => h9) rfl dX4_loseByChance_6 ?_
      refine lv_icmp_ge (tgt := 119) hx hb dX4_loseByChance_9 (by decide) (fun c_4 => ?_) (fun c_4 => ?_)
      · have hF := zit c_4 hF
        exact kx_3_0 x2_1 L_3 (Option.some.inj hF) _ _ _ hP hD hS (lv_sub hl [1] rfl)
      · have hF := zif c_4 hF
        refine lv_iload_n hx hb dX4_loseByChance_12 rfl (lv_at hl 2 rfl) ?_
        refine lv_bipush (v := 6) hx hb dX4_loseByChance_13 (by decide) ?_
        refine lv_icmp_ge (tgt := 119) hx hb dX4_loseByChance_15 (by decide) (fun c_5 => ?_) (fun c_5 => ?_)
        · have hF := zit c_5 hF
          exact kx_3_0 x2_1 L_3 (Option.some.inj hF) _ _ _ hP hD hS (lv_sub hl [1] rfl)
        · have hF := zif c_5 hF
          refine lv_iconst (v := 0) hx hb dX4_loseByChance_18 (by decide) ?_
          refine lv_istore (lv' := [(4, .int (0 : Int32)), (0, .ref (E.1 (13 + 11 * j))), (2, .int x2_1), (3, .int x3_2)]) hx hb dX4_loseByChance_19 hl (by decide) rfl (fun ls hl => ?_)
          obtain ⟨o_27, ho_27, hF⟩ := zbd hF
          have kx_5_0 : ∀ (x2_28 : Int32) (L_29 : zLS), (x2_28, L_29) = o_27 → ∀ (H : Heap) (locs : List Loc) (ls : Array Slot), va_P D vwCl (zW E KL kc on rw rd ft tr (va_up la j L_29) mo) H → va_D A (zW E KL kc on rw rd ft tr (va_up la j L_29) mo) → va_S A s.heap H locs → lv_has ls 7 [(0, .ref (E.1 (13 + 11 * j))), (2, .int x2_28), (3, .int x3_2)] → W p l e ({ frames := 0, cells := 0, slots := 0, locals := 0 } : Room) s m args below meth c H locs 0 0 Q (F0 m 113 ls []) := by
            intro x2_28 L_29 ho H locs ls hP hD hS hl
            subst ho
            refine lv_iinc (v := x3_2 + (1 : Int32)) (lv' := [(3, .int (x3_2 + (1 : Int32))), (0, .ref (E.1 (13 + 11 * j))), (2, .int x2_28)]) hx hb dX4_loseByChance_113 hl (k := 2) rfl rfl (by decide) rfl (fun ls hl => ?_)
            refine lv_goto (tgt := 4) hx hb dX4_loseByChance_116 (by decide) ?_
            exact ih x2_28 (x3_2 + (1 : Int32)) L_29 _ hF kx_3_0 _ _ _ hP hD hS (lv_sub hl [1, 2, 0] rfl)
          have lp_5 : ∀ (x3_7 : Int32) (n : Nat) (x2_6 : Int32) (x4_8 : Int32) (L_9 : zLS) (o : (Int32 × zLS)), fX4_loseByChance_l5 N x3_7 n x2_6 x4_8 L_9 = some o → (∀ (x2_28 : Int32) (L_29 : zLS), (x2_28, L_29) = o → ∀ (H : Heap) (locs : List Loc) (ls : Array Slot), va_P D vwCl (zW E KL kc on rw rd ft tr (va_up la j L_29) mo) H → va_D A (zW E KL kc on rw rd ft tr (va_up la j L_29) mo) → va_S A s.heap H locs → lv_has ls 7 [(0, .ref (E.1 (13 + 11 * j))), (2, .int x2_28), (3, .int x3_7)] → W p l e ({ frames := 0, cells := 0, slots := 0, locals := 0 } : Room) s m args below meth c H locs 0 0 Q (F0 m 113 ls [])) → ∀ (H : Heap) (locs : List Loc) (ls : Array Slot), va_P D vwCl (zW E KL kc on rw rd ft tr (va_up la j L_9) mo) H → va_D A (zW E KL kc on rw rd ft tr (va_up la j L_9) mo) → va_S A s.heap H locs → lv_has ls 7 [(0, .ref (E.1 (13 + 11 * j))), (2, .int x2_6), (3, .int x3_7), (4, .int x4_8)] → W p l e ({ frames := 0, cells := 0, slots := 0, locals := 0 } : Room) s m args below meth c H locs 0 0 Q (F0 m 21 ls []) := by
            intro x3_7 n
            induction n with
            | zero =>
              intro x2_6 x4_8 L_9 o hF
              exact znone hF
            | succ n ih =>
              intro x2_6 x4_8 L_9 o hF kx_5_0 H locs ls hP hD hS hl
              rw [fX4_loseByChance_l5] at hF
              refine lv_iload hx hb dX4_loseByChance_21 (lv_at hl 3 rfl) ?_
              refine lv_aload_n hx hb dX4_loseByChance_23 rfl (lv_at hl 0 rfl) ?_
              refine va_get (D := D) (ci := 3) (v := .int (L_9.1.1 7)) (C := RX4) (T := TX4) (N := 19) hx hb hts (zi iX4) hown hK hP (13 + 11 * j) (zg_L _ _ _ _ _ _ _ _ _ _ hj _) rfl 7 (by decide) (zh hts k0_121) (fun _ h9 => h9) rfl dX4_loseByChance_24 ?_
              refine lv_icmp_ge (tgt := 113) hx hb dX4_loseByChance_27 (by decide) (fun c_10 => ?_) (fun c_10 => ?_)
              · have hF := zit c_10 hF
                exact kx_5_0 x2_6 L_9 (Option.some.inj hF) _ _ _ hP hD hS (lv_sub hl [0, 1, 2] rfl)
              · have hF := zif c_10 hF
                refine lv_iload hx hb dX4_loseByChance_30 (lv_at hl 3 rfl) ?_
                refine lv_bipush (v := 8) hx hb dX4_loseByChance_32 (by decide) ?_
                refine lv_icmp_ge (tgt := 113) hx hb dX4_loseByChance_34 (by decide) (fun c_11 => ?_) (fun c_11 => ?_)
                · have hF := zit c_11 hF
                  exact kx_5_0 x2_6 L_9 (Option.some.inj hF) _ _ _ hP hD hS (lv_sub hl [0, 1, 2] rfl)
                · have hF := zif c_11 hF
                  refine lv_aload_n hx hb dX4_loseByChance_37 rfl (lv_at hl 0 rfl) ?_
                  refine va_get (D := D) (ci := 3) (v := .ref (E.1 (13 + 11 * j + 6))) (C := RX4) (T := TX4) (N := 19) hx hb hts (zi iX4) hown hK hP (13 + 11 * j) (zg_L _ _ _ _ _ _ _ _ _ _ hj _) rfl 14 (by decide) (zh hts k0_133) (fun _ h9 => h9) rfl dX4_loseByChance_38 ?_
                  refine lv_iload_n hx hb dX4_loseByChance_41 rfl (lv_at hl 2 rfl) ?_
                  refine lv_bipush (v := 8) hx hb dX4_loseByChance_42 (by decide) ?_
                  refine lv_imul hx hb dX4_loseByChance_44 ?_
                  refine lv_iload hx hb dX4_loseByChance_45 (lv_at hl 3 rfl) ?_
                  refine lv_iadd hx hb dX4_loseByChance_47 ?_
                  obtain ⟨g_12, hF⟩ := zgd hF
                  refine ziald (v := L_9.1.2 14 (((x3_7 * (8 : Int32)) + x4_8).toNatClampNeg)) hx hb hK hP (13 + 11 * j + 6) 1 (zg_L_14 _ _ _ _ _ _ _ _ _ _ hj _) rfl g_12 rfl dX4_loseByChance_48 ?_
                  refine lv_istore (lv' := [(5, .int (L_9.1.2 14 (((x3_7 * (8 : Int32)) + x4_8).toNatClampNeg))), (0, .ref (E.1 (13 + 11 * j))), (2, .int x2_6), (3, .int x3_7), (4, .int x4_8)]) hx hb dX4_loseByChance_49 hl (by decide) rfl (fun ls hl => ?_)
                  refine lv_iconst (v := 0) hx hb dX4_loseByChance_51 (by decide) ?_
                  refine lv_istore (lv' := [(6, .int (0 : Int32)), (5, .int (L_9.1.2 14 (((x3_7 * (8 : Int32)) + x4_8).toNatClampNeg))), (0, .ref (E.1 (13 + 11 * j))), (2, .int x2_6), (3, .int x3_7), (4, .int x4_8)]) hx hb dX4_loseByChance_52 hl (by decide) rfl (fun ls hl => ?_)
                  obtain ⟨o_23, ho_23, hF⟩ := zbd hF
                  have kx_6_0 : ∀ (x2_24 : Int32) (L_25 : zLS), (x2_24, L_25) = o_23 → ∀ (H : Heap) (locs : List Loc) (ls : Array Slot), va_P D vwCl (zW E KL kc on rw rd ft tr (va_up la j L_25) mo) H → va_D A (zW E KL kc on rw rd ft tr (va_up la j L_25) mo) → va_S A s.heap H locs → lv_has ls 7 [(0, .ref (E.1 (13 + 11 * j))), (2, .int x2_24), (3, .int x3_7), (4, .int x4_8)] → W p l e ({ frames := 0, cells := 0, slots := 0, locals := 0 } : Room) s m args below meth c H locs 0 0 Q (F0 m 107 ls []) := by
                    intro x2_24 L_25 ho H locs ls hP hD hS hl
                    subst ho
                    refine lv_iinc (v := x4_8 + (1 : Int32)) (lv' := [(4, .int (x4_8 + (1 : Int32))), (0, .ref (E.1 (13 + 11 * j))), (2, .int x2_24), (3, .int x3_7)]) hx hb dX4_loseByChance_107 hl (k := 3) rfl rfl (by decide) rfl (fun ls hl => ?_)
                    refine lv_goto (tgt := 21) hx hb dX4_loseByChance_110 (by decide) ?_
                    exact ih x2_24 (x4_8 + (1 : Int32)) L_25 _ hF kx_5_0 _ _ _ hP hD hS (lv_sub hl [1, 2, 3, 0] rfl)
                  have lp_6 : ∀ (x3_14 : Int32) (x4_15 : Int32) (x5_16 : Int32) (n : Nat) (x2_13 : Int32) (x6_17 : Int32) (L_18 : zLS) (o : (Int32 × zLS)), fX4_loseByChance_l6 N x3_14 x4_15 x5_16 n x2_13 x6_17 L_18 = some o → (∀ (x2_24 : Int32) (L_25 : zLS), (x2_24, L_25) = o → ∀ (H : Heap) (locs : List Loc) (ls : Array Slot), va_P D vwCl (zW E KL kc on rw rd ft tr (va_up la j L_25) mo) H → va_D A (zW E KL kc on rw rd ft tr (va_up la j L_25) mo) → va_S A s.heap H locs → lv_has ls 7 [(0, .ref (E.1 (13 + 11 * j))), (2, .int x2_24), (3, .int x3_14), (4, .int x4_15)] → W p l e ({ frames := 0, cells := 0, slots := 0, locals := 0 } : Room) s m args below meth c H locs 0 0 Q (F0 m 107 ls [])) → ∀ (H : Heap) (locs : List Loc) (ls : Array Slot), va_P D vwCl (zW E KL kc on rw rd ft tr (va_up la j L_18) mo) H → va_D A (zW E KL kc on rw rd ft tr (va_up la j L_18) mo) → va_S A s.heap H locs → lv_has ls 7 [(0, .ref (E.1 (13 + 11 * j))), (2, .int x2_13), (3, .int x3_14), (4, .int x4_15), (5, .int x5_16), (6, .int x6_17)] → W p l e ({ frames := 0, cells := 0, slots := 0, locals := 0 } : Room) s m args below meth c H locs 0 0 Q (F0 m 54 ls []) := by
                    intro x3_14 x4_15 x5_16 n
                    induction n with
                    | zero =>
                      intro x2_13 x6_17 L_18 o hF
                      exact znone hF
                    | succ n ih =>
                      intro x2_13 x6_17 L_18 o hF kx_6_0 H locs ls hP hD hS hl
                      rw [fX4_loseByChance_l6] at hF
                      refine lv_iload hx hb dX4_loseByChance_54 (lv_at hl 5 rfl) ?_
                      refine lv_iload hx hb dX4_loseByChance_56 (lv_at hl 4 rfl) ?_
                      refine lv_icmp_ge (tgt := 107) hx hb dX4_loseByChance_58 (by decide) (fun c_19 => ?_) (fun c_19 => ?_)
                      · have hF := zit c_19 hF
                        exact kx_6_0 x2_13 L_18 (Option.some.inj hF) _ _ _ hP hD hS (lv_sub hl [0, 1, 2, 3] rfl)
                      · have hF := zif c_19 hF
                        refine lv_iload_n hx hb dX4_loseByChance_61 rfl (lv_at hl 1 rfl) ?_
                        refine lv_i2l hx hb dX4_loseByChance_62 rfl ?_
                        refine lv_ldc2 (own := RX4) (v := 16807) hx hb hown (zh hts k2_198) dX4_loseByChance_63 ?_
                        refine lv_lmul hx hb dX4_loseByChance_66 ?_
                        refine lv_ldc2 (own := RX4) (v := 2147483647) hx hb hown (zh hts k2_199) dX4_loseByChance_67 ?_
                        refine lv_lrem hx hb dX4_loseByChance_70 (by decide) ?_
                        refine lv_l2i hx hb dX4_loseByChance_71 rfl ?_
                        refine lv_istore_n (lv' := [(2, .int (((x2_13.toInt64 * (16807 : Int64)) - (x2_13.toInt64 * (16807 : Int64)) / (2147483647 : Int64) * (2147483647 : Int64)).toInt32)), (0, .ref (E.1 (13 + 11 * j))), (3, .int x3_14), (4, .int x4_15), (5, .int x5_16), (6, .int x6_17)]) hx hb dX4_loseByChance_72 rfl hl (by decide) rfl (fun ls hl => ?_)
                        refine lv_iload_n hx hb dX4_loseByChance_73 rfl (lv_at hl 0 rfl) ?_
                        refine lv_sipush (v := 1000) hx hb dX4_loseByChance_74 (by decide) ?_
                        refine lv_irem hx hb dX4_loseByChance_77 (by decide) ?_
                        refine lv_aload_n hx hb dX4_loseByChance_78 rfl (lv_at hl 1 rfl) ?_
                        refine va_get (D := D) (ci := 3) (v := .int (L_18.1.1 3)) (C := RX4) (T := TX4) (N := 19) hx hb hts (zi iX4) hown hK hP (13 + 11 * j) (zg_L _ _ _ _ _ _ _ _ _ _ hj _) rfl 3 (by decide) (zh hts k0_110) (fun _ h9 => h9) rfl dX4_loseByChance_79 ?_
                        refine lv_icmp_ge (tgt := 101) hx hb dX4_loseByChance_82 (by decide) (fun c_20 => ?_) (fun c_20 => ?_)
                        · have hF := zit c_20 hF
                          refine lv_iinc (v := x6_17 + (1 : Int32)) (lv' := [(6, .int (x6_17 + (1 : Int32))), (2, .int (((x2_13.toInt64 * (16807 : Int64)) - (x2_13.toInt64 * (16807 : Int64)) / (2147483647 : Int64) * (2147483647 : Int64)).toInt32)), (0, .ref (E.1 (13 + 11 * j))), (3, .int x3_14), (4, .int x4_15), (5, .int x5_16)]) hx hb dX4_loseByChance_101 hl (k := 5) rfl rfl (by decide) rfl (fun ls hl => ?_)
                          refine lv_goto (tgt := 54) hx hb dX4_loseByChance_104 (by decide) ?_
                          exact ih (((x2_13.toInt64 * (16807 : Int64)) - (x2_13.toInt64 * (16807 : Int64)) / (2147483647 : Int64) * (2147483647 : Int64)).toInt32) (x6_17 + (1 : Int32)) L_18 _ hF kx_6_0 _ _ _ hP hD hS (lv_sub hl [2, 1, 3, 4, 5, 0] rfl)
                        · have hF := zif c_20 hF
                          refine lv_aload_n hx hb dX4_loseByChance_85 rfl (lv_at hl 1 rfl) ?_
                          refine va_get (D := D) (ci := 3) (v := .ref (E.1 (13 + 11 * j + 6))) (C := RX4) (T := TX4) (N := 19) hx hb hts (zi iX4) hown hK hP (13 + 11 * j) (zg_L _ _ _ _ _ _ _ _ _ _ hj _) rfl 14 (by decide) (zh hts k0_133) (fun _ h9 => h9) rfl dX4_loseByChance_86 ?_
                          refine lv_iload_n hx hb dX4_loseByChance_89 rfl (lv_at hl 2 rfl) ?_
                          refine lv_bipush (v := 8) hx hb dX4_loseByChance_90 (by decide) ?_
                          refine lv_imul hx hb dX4_loseByChance_92 ?_
                          refine lv_iload hx hb dX4_loseByChance_93 (lv_at hl 3 rfl) ?_
                          refine lv_iadd hx hb dX4_loseByChance_95 ?_
                          refine lv_dup2_11 hx hb dX4_loseByChance_96 rfl rfl ?_
                          obtain ⟨g_21, hF⟩ := zgd hF
                          refine ziald (v := L_18.1.2 14 (((x3_14 * (8 : Int32)) + x4_15).toNatClampNeg)) hx hb hK hP (13 + 11 * j + 6) 1 (zg_L_14 _ _ _ _ _ _ _ _ _ _ hj _) rfl g_21 rfl dX4_loseByChance_97 ?_
                          refine lv_iconst (v := 1) hx hb dX4_loseByChance_98 (by decide) ?_
                          refine lv_isub hx hb dX4_loseByChance_99 ?_
                          obtain ⟨g_22, hF⟩ := zgd hF
                          refine va_iast hx hb hK hP hD hS (13 + 11 * j + 6) 1 (zg_L_14 _ _ _ _ _ _ _ _ _ _ hj _) rfl g_22 dX4_loseByChance_100 (fun H locs hP hD hS => ?_)
                          rw [zs_L_14 _ _ _ _ _ _ _ _ _ _ hj] at hP hD
                          have hP : va_P D vwCl (zW E KL kc on rw rd ft tr (va_up la j (zLA L_18 14 (upd (L_18.1.2 14) (((x3_14 * (8 : Int32)) + x4_15).toNatClampNeg) ((L_18.1.2 14 (((x3_14 * (8 : Int32)) + x4_15).toNatClampNeg)) - (1 : Int32))))) mo) H := hP
                          have hD : va_D A (zW E KL kc on rw rd ft tr (va_up la j (zLA L_18 14 (upd (L_18.1.2 14) (((x3_14 * (8 : Int32)) + x4_15).toNatClampNeg) ((L_18.1.2 14 (((x3_14 * (8 : Int32)) + x4_15).toNatClampNeg)) - (1 : Int32))))) mo) := hD
                          refine lv_iinc (v := x6_17 + (1 : Int32)) (lv' := [(6, .int (x6_17 + (1 : Int32))), (2, .int (((x2_13.toInt64 * (16807 : Int64)) - (x2_13.toInt64 * (16807 : Int64)) / (2147483647 : Int64) * (2147483647 : Int64)).toInt32)), (0, .ref (E.1 (13 + 11 * j))), (3, .int x3_14), (4, .int x4_15), (5, .int x5_16)]) hx hb dX4_loseByChance_101 hl (k := 5) rfl rfl (by decide) rfl (fun ls hl => ?_)
                          refine lv_goto (tgt := 54) hx hb dX4_loseByChance_104 (by decide) ?_
                          exact ih (((x2_13.toInt64 * (16807 : Int64)) - (x2_13.toInt64 * (16807 : Int64)) / (2147483647 : Int64) * (2147483647 : Int64)).toInt32) (x6_17 + (1 : Int32)) (zLA L_18 14 (upd (L_18.1.2 14) (((x3_14 * (8 : Int32)) + x4_15).toNatClampNeg) ((L_18.1.2 14 (((x3_14 * (8 : Int32)) + x4_15).toNatClampNeg)) - (1 : Int32)))) _ hF kx_6_0 _ _ _ hP hD hS (lv_sub hl [2, 1, 3, 4, 5, 0] rfl)
                  exact lp_6 x3_7 x4_8 (L_9.1.2 14 (((x3_7 * (8 : Int32)) + x4_8).toNatClampNeg)) N x2_6 (0 : Int32) L_9 _ ho_23 kx_6_0 _ _ _ hP hD hS (lv_sub hl [2, 3, 4, 5, 1, 0] rfl)
          exact lp_5 x3_2 N x2_1 (0 : Int32) L_3 _ ho_27 kx_5_0 _ _ _ hP hD hS (lv_sub hl [1, 2, 3, 0] rfl)
  exact lp_3 N x1 (0 : Int32) L _ ho_31 kx_3_0 _ _ _ hP hD hS (lv_sub hl [2, 1, 0] rfl)
def fX4_spreadSold_l1 (N : Nat) : Nat → Int32 → zLS → Option zLS
  | 0, _, _ => none
  | n + 1, x1_1, L_2 =>
    if (L_2.1.1 7) ≤ x1_1 then
      some L_2
    else
      if (8 : Int32) ≤ x1_1 then
        some L_2
      else
        if x1_1 < 0 ∨ 8 ≤ x1_1.toNatClampNeg then none else
        if (L_2.1.2 18 x1_1.toNatClampNeg) = (-1000000 : Int32) then
          fX4_spreadSold_l1 N n (x1_1 + (1 : Int32)) L_2
        else
          if x1_1 < 0 ∨ 8 ≤ x1_1.toNatClampNeg then none else
          if x1_1 < 0 ∨ 8 ≤ x1_1.toNatClampNeg then none else
          fX4_spreadSold_l1 N n (x1_1 + (1 : Int32)) (zLA L_2 17 (upd (L_2.1.2 17) x1_1.toNatClampNeg ((L_2.1.2 17 x1_1.toNatClampNeg) + (L_2.1.1 4))))
def fX4_spreadSold (N : Nat) (L : zLS) : Option zLS :=
  (fX4_spreadSold_l1 N N (0 : Int32) L).bind (fun u_11 =>
    some u_11)
set_option maxHeartbeats 4000000 in
set_option maxRecDepth 100000 in
theorem qX4_spreadSold (l : Launch) (D : va_G) (E : zE) (KL : List Nat) (kc : Nat → zKC) (on : zNS) (rw rd ft tr : zOS) (la : Nat → zLS) (mo : zMS) (j : Nat) (hj : j < 5) (L : zLS) (N sz : Nat)  (out : zLS) (hF : fX4_spreadSold N L = some out) : zCv l yX4_spreadSold zwX4_spreadSold ({ frames := 0, cells := 0, slots := 0, locals := 0 }) [.ref (E.1 (13 + 11 * j))] D E sz (zW E KL kc on rw rd ft tr (va_up la j L) mo) (zW E KL kc on rw rd ft tr (va_up la j out) mo) 0 0 := by
  refine zent_v (cc := cX4_spreadSold) (nL := 2) (by decide) rfl (Nat.le_of_ble_eq_true rfl) ?_
  intro p e s m args below meth c Q A hx hb hml hown hts hA hK hP hD hS hE ls hl hend
  have hown : s.vm.findClass RX4 = some m.cls := hown
  have hl : lv_has ls 2 [(0, .ref (E.1 (13 + 11 * j)))] := hl
  rw [fX4_spreadSold] at hF
  refine lv_iconst (v := 0) hx hb dX4_spreadSold_0 (by decide) ?_
  refine lv_istore_n (lv' := [(1, .int (0 : Int32)), (0, .ref (E.1 (13 + 11 * j)))]) hx hb dX4_spreadSold_1 rfl hl (by decide) rfl (fun ls hl => ?_)
  obtain ⟨o_9, ho_9, hF⟩ := zbd hF
  have kx_1_0 : ∀ (L_10 : zLS), L_10 = o_9 → ∀ (H : Heap) (locs : List Loc) (ls : Array Slot), va_P D vwCl (zW E KL kc on rw rd ft tr (va_up la j L_10) mo) H → va_D A (zW E KL kc on rw rd ft tr (va_up la j L_10) mo) → va_S A s.heap H locs → lv_has ls 2 [] → W p l e ({ frames := 0, cells := 0, slots := 0, locals := 0 } : Room) s m args below meth c H locs 0 0 Q (F0 m 46 ls []) := by
    intro L_10 ho H locs ls hP hD hS hl
    subst ho
    obtain rfl := Option.some.inj hF
    exact hend _ _ _ _ hP hD hS dX4_spreadSold_46
  have lp_1 : ∀ (n : Nat) (x1_1 : Int32) (L_2 : zLS) (o : zLS), fX4_spreadSold_l1 N n x1_1 L_2 = some o → (∀ (L_10 : zLS), L_10 = o → ∀ (H : Heap) (locs : List Loc) (ls : Array Slot), va_P D vwCl (zW E KL kc on rw rd ft tr (va_up la j L_10) mo) H → va_D A (zW E KL kc on rw rd ft tr (va_up la j L_10) mo) → va_S A s.heap H locs → lv_has ls 2 [] → W p l e ({ frames := 0, cells := 0, slots := 0, locals := 0 } : Room) s m args below meth c H locs 0 0 Q (F0 m 46 ls [])) → ∀ (H : Heap) (locs : List Loc) (ls : Array Slot), va_P D vwCl (zW E KL kc on rw rd ft tr (va_up la j L_2) mo) H → va_D A (zW E KL kc on rw rd ft tr (va_up la j L_2) mo) → va_S A s.heap H locs → lv_has ls 2 [(0, .ref (E.1 (13 + 11 * j))), (1, .int x1_1)] → W p l e ({ frames := 0, cells := 0, slots := 0, locals := 0 } : Room) s m args below meth c H locs 0 0 Q (F0 m 2 ls []) := by
    intro n
    induction n with
    | zero =>
      intro x1_1 L_2 o hF
      exact znone hF
    | succ n ih =>
      intro x1_1 L_2 o hF kx_1_0 H locs ls hP hD hS hl
      rw [fX4_spreadSold_l1] at hF
      refine lv_iload_n hx hb dX4_spreadSold_2 rfl (lv_at hl 1 rfl) ?_
      refine lv_aload_n hx hb dX4_spreadSold_3 rfl (lv_at hl 0 rfl) ?_
      refine va_get (D := D) (ci := 3) (v := .int (L_2.1.1 7)) (C := RX4) (T := TX4) (N := 19) hx hb hts (zi iX4) hown hK hP (13 + 11 * j) (zg_L _ _ _ _ _ _ _ _ _ _ hj _) rfl 7 (by decide) (zh hts k0_121) (fun _ h9 => h9) rfl dX4_spreadSold_4 ?_
      refine lv_icmp_ge (tgt := 46) hx hb dX4_spreadSold_7 (by decide) (fun c_3 => ?_) (fun c_3 => ?_)
      · have hF := zit c_3 hF
        exact kx_1_0 L_2 (Option.some.inj hF) _ _ _ hP hD hS (lv_sub hl [] rfl)
      · have hF := zif c_3 hF
        refine lv_iload_n hx hb dX4_spreadSold_10 rfl (lv_at hl 1 rfl) ?_
        refine lv_bipush (v := 8) hx hb dX4_spreadSold_11 (by decide) ?_
        refine lv_icmp_ge (tgt := 46) hx hb dX4_spreadSold_13 (by decide) (fun c_4 => ?_) (fun c_4 => ?_)
        · have hF := zit c_4 hF
          exact kx_1_0 L_2 (Option.some.inj hF) _ _ _ hP hD hS (lv_sub hl [] rfl)
        · have hF := zif c_4 hF
          refine lv_aload_n hx hb dX4_spreadSold_16 rfl (lv_at hl 0 rfl) ?_
          refine va_get (D := D) (ci := 3) (v := .ref (E.1 (13 + 11 * j + 10))) (C := RX4) (T := TX4) (N := 19) hx hb hts (zi iX4) hown hK hP (13 + 11 * j) (zg_L _ _ _ _ _ _ _ _ _ _ hj _) rfl 18 (by decide) (zh hts k0_137) (fun _ h9 => h9) rfl dX4_spreadSold_17 ?_
          refine lv_iload_n hx hb dX4_spreadSold_20 rfl (lv_at hl 1 rfl) ?_
          obtain ⟨g_5, hF⟩ := zgd hF
          refine ziald (v := L_2.1.2 18 x1_1.toNatClampNeg) hx hb hK hP (13 + 11 * j + 10) 1 (zg_L_18 _ _ _ _ _ _ _ _ _ _ hj _) rfl g_5 rfl dX4_spreadSold_21 ?_
          refine lv_ldc (own := RX4) (v := -1000000) hx hb hown (zh hts k2_82) dX4_spreadSold_22 ?_
          refine lv_icmp_eq (tgt := 40) hx hb dX4_spreadSold_24 (by decide) (fun c_6 => ?_) (fun c_6 => ?_)
          · have hF := zit c_6 hF
            refine lv_iinc (v := x1_1 + (1 : Int32)) (lv' := [(1, .int (x1_1 + (1 : Int32))), (0, .ref (E.1 (13 + 11 * j)))]) hx hb dX4_spreadSold_40 hl (k := 1) rfl rfl (by decide) rfl (fun ls hl => ?_)
            refine lv_goto (tgt := 2) hx hb dX4_spreadSold_43 (by decide) ?_
            exact ih (x1_1 + (1 : Int32)) L_2 _ hF kx_1_0 _ _ _ hP hD hS (lv_sub hl [1, 0] rfl)
          · have hF := zif c_6 hF
            refine lv_aload_n hx hb dX4_spreadSold_27 rfl (lv_at hl 0 rfl) ?_
            refine va_get (D := D) (ci := 3) (v := .ref (E.1 (13 + 11 * j + 9))) (C := RX4) (T := TX4) (N := 19) hx hb hts (zi iX4) hown hK hP (13 + 11 * j) (zg_L _ _ _ _ _ _ _ _ _ _ hj _) rfl 17 (by decide) (zh hts k0_136) (fun _ h9 => h9) rfl dX4_spreadSold_28 ?_
            refine lv_iload_n hx hb dX4_spreadSold_31 rfl (lv_at hl 1 rfl) ?_
            refine lv_dup2_11 hx hb dX4_spreadSold_32 rfl rfl ?_
            obtain ⟨g_7, hF⟩ := zgd hF
            refine ziald (v := L_2.1.2 17 x1_1.toNatClampNeg) hx hb hK hP (13 + 11 * j + 9) 1 (zg_L_17 _ _ _ _ _ _ _ _ _ _ hj _) rfl g_7 rfl dX4_spreadSold_33 ?_
            refine lv_aload_n hx hb dX4_spreadSold_34 rfl (lv_at hl 0 rfl) ?_
            refine va_get (D := D) (ci := 3) (v := .int (L_2.1.1 4)) (C := RX4) (T := TX4) (N := 19) hx hb hts (zi iX4) hown hK hP (13 + 11 * j) (zg_L _ _ _ _ _ _ _ _ _ _ hj _) rfl 4 (by decide) (zh hts k0_112) (fun _ h9 => h9) rfl dX4_spreadSold_35 ?_
            refine lv_iadd hx hb dX4_spreadSold_38 ?_
            obtain ⟨g_8, hF⟩ := zgd hF
            refine va_iast hx hb hK hP hD hS (13 + 11 * j + 9) 1 (zg_L_17 _ _ _ _ _ _ _ _ _ _ hj _) rfl g_8 dX4_spreadSold_39 (fun H locs hP hD hS => ?_)
            rw [zs_L_17 _ _ _ _ _ _ _ _ _ _ hj] at hP hD
            have hP : va_P D vwCl (zW E KL kc on rw rd ft tr (va_up la j (zLA L_2 17 (upd (L_2.1.2 17) x1_1.toNatClampNeg ((L_2.1.2 17 x1_1.toNatClampNeg) + (L_2.1.1 4))))) mo) H := hP
            have hD : va_D A (zW E KL kc on rw rd ft tr (va_up la j (zLA L_2 17 (upd (L_2.1.2 17) x1_1.toNatClampNeg ((L_2.1.2 17 x1_1.toNatClampNeg) + (L_2.1.1 4))))) mo) := hD
            refine lv_iinc (v := x1_1 + (1 : Int32)) (lv' := [(1, .int (x1_1 + (1 : Int32))), (0, .ref (E.1 (13 + 11 * j)))]) hx hb dX4_spreadSold_40 hl (k := 1) rfl rfl (by decide) rfl (fun ls hl => ?_)
            refine lv_goto (tgt := 2) hx hb dX4_spreadSold_43 (by decide) ?_
            exact ih (x1_1 + (1 : Int32)) (zLA L_2 17 (upd (L_2.1.2 17) x1_1.toNatClampNeg ((L_2.1.2 17 x1_1.toNatClampNeg) + (L_2.1.1 4)))) _ hF kx_1_0 _ _ _ hP hD hS (lv_sub hl [1, 0] rfl)
  exact lp_1 N (0 : Int32) L _ ho_9 kx_1_0 _ _ _ hP hD hS (lv_sub hl [1, 0] rfl)
def fX4_payCost_l3 (N : Nat) (x1_5 : Int32) : Nat → Int32 → zLS → Option zLS
  | 0, _, _ => none
  | n + 1, x2_6, L_7 =>
    if (L_7.1.1 7) ≤ x2_6 then
      some L_7
    else
      if x1_5 < 0 ∨ 6 ≤ x1_5.toNatClampNeg then none else
      (fX4_countOf N L_7 x1_5 x2_6).bind fun u_11 =>
      if x1_5 < 0 ∨ 6 ≤ x1_5.toNatClampNeg then none else
      fX4_payCost_l3 N x1_5 n (x2_6 + (1 : Int32)) (zLA L_7 15 (upd (L_7.1.2 15) x1_5.toNatClampNeg ((L_7.1.2 15 x1_5.toNatClampNeg) - ((if (u_11 - (1 : Int32)) < (0 : Int32) then (0 : Int32) else (u_11 - (1 : Int32))) * (L_7.1.1 5)))))
def fX4_payCost_l2 (N : Nat) : Nat → Int32 → zLS → Option zLS
  | 0, _, _ => none
  | n + 1, x1_1, L_2 =>
    if (L_2.1.1 6) ≤ x1_1 then
      some L_2
    else
      if (6 : Int32) ≤ x1_1 then
        some L_2
      else
        (fX4_payCost_l3 N x1_1 N (0 : Int32) L_2).bind (fun u_15 =>
          fX4_payCost_l2 N n (x1_1 + (1 : Int32)) u_15)
def fX4_payCost (N : Nat) (L : zLS) : Option zLS :=
  (fX4_payCost_l2 N N (0 : Int32) L).bind (fun u_18 =>
    some u_18)
set_option maxHeartbeats 4000000 in
set_option maxRecDepth 100000 in
theorem qX4_payCost (l : Launch) (D : va_G) (E : zE) (KL : List Nat) (kc : Nat → zKC) (on : zNS) (rw rd ft tr : zOS) (la : Nat → zLS) (mo : zMS) (j : Nat) (hj : j < 5) (L : zLS) (N sz : Nat)  (out : zLS) (hF : fX4_payCost N L = some out) : zCv l yX4_payCost zwX4_payCost ({ frames := 1, cells := 0, slots := 0, locals := 23 }) [.ref (E.1 (13 + 11 * j))] D E sz (zW E KL kc on rw rd ft tr (va_up la j L) mo) (zW E KL kc on rw rd ft tr (va_up la j out) mo) 0 0 := by
  refine zent_v (cc := cX4_payCost) (nL := 3) (by decide) rfl (Nat.le_of_ble_eq_true rfl) ?_
  intro p e s m args below meth c Q A hx hb hml hown hts hA hK hP hD hS hE ls hl hend
  have hown : s.vm.findClass RX4 = some m.cls := hown
  have hl : lv_has ls 3 [(0, .ref (E.1 (13 + 11 * j)))] := hl
  rw [fX4_payCost] at hF
  refine lv_iconst (v := 0) hx hb dX4_payCost_0 (by decide) ?_
  refine lv_istore_n (lv' := [(1, .int (0 : Int32)), (0, .ref (E.1 (13 + 11 * j)))]) hx hb dX4_payCost_1 rfl hl (by decide) rfl (fun ls hl => ?_)
  obtain ⟨o_16, ho_16, hF⟩ := zbd hF
  have kx_2_0 : ∀ (L_17 : zLS), L_17 = o_16 → ∀ (H : Heap) (locs : List Loc) (ls : Array Slot), va_P D vwCl (zW E KL kc on rw rd ft tr (va_up la j L_17) mo) H → va_D A (zW E KL kc on rw rd ft tr (va_up la j L_17) mo) → va_S A s.heap H locs → lv_has ls 3 [] → W p l e ({ frames := 1, cells := 0, slots := 0, locals := 23 } : Room) s m args below meth c H locs 0 0 Q (F0 m 64 ls []) := by
    intro L_17 ho H locs ls hP hD hS hl
    subst ho
    obtain rfl := Option.some.inj hF
    exact hend _ _ _ _ hP hD hS dX4_payCost_64
  have lp_2 : ∀ (n : Nat) (x1_1 : Int32) (L_2 : zLS) (o : zLS), fX4_payCost_l2 N n x1_1 L_2 = some o → (∀ (L_17 : zLS), L_17 = o → ∀ (H : Heap) (locs : List Loc) (ls : Array Slot), va_P D vwCl (zW E KL kc on rw rd ft tr (va_up la j L_17) mo) H → va_D A (zW E KL kc on rw rd ft tr (va_up la j L_17) mo) → va_S A s.heap H locs → lv_has ls 3 [] → W p l e ({ frames := 1, cells := 0, slots := 0, locals := 23 } : Room) s m args below meth c H locs 0 0 Q (F0 m 64 ls [])) → ∀ (H : Heap) (locs : List Loc) (ls : Array Slot), va_P D vwCl (zW E KL kc on rw rd ft tr (va_up la j L_2) mo) H → va_D A (zW E KL kc on rw rd ft tr (va_up la j L_2) mo) → va_S A s.heap H locs → lv_has ls 3 [(0, .ref (E.1 (13 + 11 * j))), (1, .int x1_1)] → W p l e ({ frames := 1, cells := 0, slots := 0, locals := 23 } : Room) s m args below meth c H locs 0 0 Q (F0 m 2 ls []) := by
    intro n
    induction n with
    | zero =>
      intro x1_1 L_2 o hF
      exact znone hF
    | succ n ih =>
      intro x1_1 L_2 o hF kx_2_0 H locs ls hP hD hS hl
      rw [fX4_payCost_l2] at hF
      refine lv_iload_n hx hb dX4_payCost_2 rfl (lv_at hl 1 rfl) ?_
      refine lv_aload_n hx hb dX4_payCost_3 rfl (lv_at hl 0 rfl) ?_
      refine va_get (D := D) (ci := 3) (v := .int (L_2.1.1 6)) (C := RX4) (T := TX4) (N := 19) hx hb hts (zi iX4) hown hK hP (13 + 11 * j) (zg_L _ _ _ _ _ _ _ _ _ _ hj _) rfl 6 (by decide) (zh hts k0_116) (fun _ h9 => h9) rfl dX4_payCost_4 ?_
      refine lv_icmp_ge (tgt := 64) hx hb dX4_payCost_7 (by decide) (fun c_3 => ?_) (fun c_3 => ?_)
      · have hF := zit c_3 hF
        exact kx_2_0 L_2 (Option.some.inj hF) _ _ _ hP hD hS (lv_sub hl [] rfl)
      · have hF := zif c_3 hF
        refine lv_iload_n hx hb dX4_payCost_10 rfl (lv_at hl 1 rfl) ?_
        refine lv_bipush (v := 6) hx hb dX4_payCost_11 (by decide) ?_
        refine lv_icmp_ge (tgt := 64) hx hb dX4_payCost_13 (by decide) (fun c_4 => ?_) (fun c_4 => ?_)
        · have hF := zit c_4 hF
          exact kx_2_0 L_2 (Option.some.inj hF) _ _ _ hP hD hS (lv_sub hl [] rfl)
        · have hF := zif c_4 hF
          refine lv_iconst (v := 0) hx hb dX4_payCost_16 (by decide) ?_
          refine lv_istore_n (lv' := [(2, .int (0 : Int32)), (0, .ref (E.1 (13 + 11 * j))), (1, .int x1_1)]) hx hb dX4_payCost_17 rfl hl (by decide) rfl (fun ls hl => ?_)
          obtain ⟨o_13, ho_13, hF⟩ := zbd hF
          have kx_3_0 : ∀ (L_14 : zLS), L_14 = o_13 → ∀ (H : Heap) (locs : List Loc) (ls : Array Slot), va_P D vwCl (zW E KL kc on rw rd ft tr (va_up la j L_14) mo) H → va_D A (zW E KL kc on rw rd ft tr (va_up la j L_14) mo) → va_S A s.heap H locs → lv_has ls 3 [(0, .ref (E.1 (13 + 11 * j))), (1, .int x1_1)] → W p l e ({ frames := 1, cells := 0, slots := 0, locals := 23 } : Room) s m args below meth c H locs 0 0 Q (F0 m 58 ls []) := by
            intro L_14 ho H locs ls hP hD hS hl
            subst ho
            refine lv_iinc (v := x1_1 + (1 : Int32)) (lv' := [(1, .int (x1_1 + (1 : Int32))), (0, .ref (E.1 (13 + 11 * j)))]) hx hb dX4_payCost_58 hl (k := 1) rfl rfl (by decide) rfl (fun ls hl => ?_)
            refine lv_goto (tgt := 2) hx hb dX4_payCost_61 (by decide) ?_
            exact ih (x1_1 + (1 : Int32)) L_14 _ hF kx_2_0 _ _ _ hP hD hS (lv_sub hl [1, 0] rfl)
          have lp_3 : ∀ (x1_5 : Int32) (n : Nat) (x2_6 : Int32) (L_7 : zLS) (o : zLS), fX4_payCost_l3 N x1_5 n x2_6 L_7 = some o → (∀ (L_14 : zLS), L_14 = o → ∀ (H : Heap) (locs : List Loc) (ls : Array Slot), va_P D vwCl (zW E KL kc on rw rd ft tr (va_up la j L_14) mo) H → va_D A (zW E KL kc on rw rd ft tr (va_up la j L_14) mo) → va_S A s.heap H locs → lv_has ls 3 [(0, .ref (E.1 (13 + 11 * j))), (1, .int x1_5)] → W p l e ({ frames := 1, cells := 0, slots := 0, locals := 23 } : Room) s m args below meth c H locs 0 0 Q (F0 m 58 ls [])) → ∀ (H : Heap) (locs : List Loc) (ls : Array Slot), va_P D vwCl (zW E KL kc on rw rd ft tr (va_up la j L_7) mo) H → va_D A (zW E KL kc on rw rd ft tr (va_up la j L_7) mo) → va_S A s.heap H locs → lv_has ls 3 [(0, .ref (E.1 (13 + 11 * j))), (1, .int x1_5), (2, .int x2_6)] → W p l e ({ frames := 1, cells := 0, slots := 0, locals := 23 } : Room) s m args below meth c H locs 0 0 Q (F0 m 18 ls []) := by
            intro x1_5 n
            induction n with
            | zero =>
              intro x2_6 L_7 o hF
              exact znone hF
            | succ n ih =>
              intro x2_6 L_7 o hF kx_3_0 H locs ls hP hD hS hl
              rw [fX4_payCost_l3] at hF
              refine lv_iload_n hx hb dX4_payCost_18 rfl (lv_at hl 2 rfl) ?_
              refine lv_aload_n hx hb dX4_payCost_19 rfl (lv_at hl 0 rfl) ?_
              refine va_get (D := D) (ci := 3) (v := .int (L_7.1.1 7)) (C := RX4) (T := TX4) (N := 19) hx hb hts (zi iX4) hown hK hP (13 + 11 * j) (zg_L _ _ _ _ _ _ _ _ _ _ hj _) rfl 7 (by decide) (zh hts k0_121) (fun _ h9 => h9) rfl dX4_payCost_20 ?_
              refine lv_icmp_ge (tgt := 58) hx hb dX4_payCost_23 (by decide) (fun c_8 => ?_) (fun c_8 => ?_)
              · have hF := zit c_8 hF
                exact kx_3_0 L_7 (Option.some.inj hF) _ _ _ hP hD hS (lv_sub hl [0, 1] rfl)
              · have hF := zif c_8 hF
                refine lv_aload_n hx hb dX4_payCost_26 rfl (lv_at hl 0 rfl) ?_
                refine va_get (D := D) (ci := 3) (v := .ref (E.1 (13 + 11 * j + 7))) (C := RX4) (T := TX4) (N := 19) hx hb hts (zi iX4) hown hK hP (13 + 11 * j) (zg_L _ _ _ _ _ _ _ _ _ _ hj _) rfl 15 (by decide) (zh hts k0_134) (fun _ h9 => h9) rfl dX4_payCost_27 ?_
                refine lv_iload_n hx hb dX4_payCost_30 rfl (lv_at hl 1 rfl) ?_
                refine lv_dup2_11 hx hb dX4_payCost_31 rfl rfl ?_
                obtain ⟨g_9, hF⟩ := zgd hF
                refine ziald (v := L_7.1.2 15 x1_5.toNatClampNeg) hx hb hK hP (13 + 11 * j + 7) 1 (zg_L_15 _ _ _ _ _ _ _ _ _ _ hj _) rfl g_9 rfl dX4_payCost_32 ?_
                refine lv_aload_n hx hb dX4_payCost_33 rfl (lv_at hl 0 rfl) ?_
                refine lv_iload_n hx hb dX4_payCost_34 rfl (lv_at hl 1 rfl) ?_
                refine lv_iload_n hx hb dX4_payCost_35 rfl (lv_at hl 2 rfl) ?_
                have hrv_10 := (va_recv hK hP (ci := 3) (q0 := 13 + 11 * j) rfl (zg_L _ _ _ _ _ _ _ _ _ _ hj _))
                obtain ⟨u_11, hu_11, hF⟩ := zbd hF
                refine zcall_i (va_runV (As := [.int x1_5, .int x2_6]) (rest := [.int (L_7.1.2 15 x1_5.toNatClampNeg), .int x1_5, .ref (E.1 (13 + 11 * j + 7))]) ⟨hx, hb, hml, hown, hts⟩ (qX4_countOf l D E KL kc on rw rd ft tr la mo j hj L_7 N _ x1_5 x2_6 _ hu_11) (cwV 2 hts (zgV k2_133 k2_134 k2_135 k0_6 k2_136) rfl rfl rfl (by decide +kernel) ⟨Nat.le_of_ble_eq_true rfl, Nat.le_of_ble_eq_true rfl⟩) (zpv hE hS hA hK hP hD hrv_10) rfl rfl hl.1 rfl (lv_room (Nat.le_of_ble_eq_true rfl)) dX4_payCost_36 ⟨Nat.zero_le _, Nat.zero_le _⟩) hD hS hA (fun H locs hP hD hS => ?_)
                refine lv_iconst (v := 1) hx hb dX4_payCost_39 (by decide) ?_
                refine lv_isub hx hb dX4_payCost_40 ?_
                refine lv_iconst (v := 0) hx hb dX4_payCost_41 (by decide) ?_
                refine va_mmax hx hb (hml.trans hl.1.symm) (own := RX4) hown (zh hts k2_109) (zh hts k2_110) (zh hts k0_10) (zh hts k2_111) (Nat.le_of_ble_eq_true rfl) (Nat.le_of_ble_eq_true rfl) (Nat.zero_le _) (Nat.zero_le _) dX4_payCost_42 ?_
                refine lv_aload_n hx hb dX4_payCost_45 rfl (lv_at hl 0 rfl) ?_
                refine va_get (D := D) (ci := 3) (v := .int (L_7.1.1 5)) (C := RX4) (T := TX4) (N := 19) hx hb hts (zi iX4) hown hK hP (13 + 11 * j) (zg_L _ _ _ _ _ _ _ _ _ _ hj _) rfl 5 (by decide) (zh hts k0_115) (fun _ h9 => h9) rfl dX4_payCost_46 ?_
                refine lv_imul hx hb dX4_payCost_49 ?_
                refine lv_isub hx hb dX4_payCost_50 ?_
                obtain ⟨g_12, hF⟩ := zgd hF
                refine va_iast hx hb hK hP hD hS (13 + 11 * j + 7) 1 (zg_L_15 _ _ _ _ _ _ _ _ _ _ hj _) rfl g_12 dX4_payCost_51 (fun H locs hP hD hS => ?_)
                rw [zs_L_15 _ _ _ _ _ _ _ _ _ _ hj] at hP hD
                have hP : va_P D vwCl (zW E KL kc on rw rd ft tr (va_up la j (zLA L_7 15 (upd (L_7.1.2 15) x1_5.toNatClampNeg ((L_7.1.2 15 x1_5.toNatClampNeg) - ((if (u_11 - (1 : Int32)) < (0 : Int32) then (0 : Int32) else (u_11 - (1 : Int32))) * (L_7.1.1 5)))))) mo) H := hP
                have hD : va_D A (zW E KL kc on rw rd ft tr (va_up la j (zLA L_7 15 (upd (L_7.1.2 15) x1_5.toNatClampNeg ((L_7.1.2 15 x1_5.toNatClampNeg) - ((if (u_11 - (1 : Int32)) < (0 : Int32) then (0 : Int32) else (u_11 - (1 : Int32))) * (L_7.1.1 5)))))) mo) := hD
                refine lv_iinc (v := x2_6 + (1 : Int32)) (lv' := [(2, .int (x2_6 + (1 : Int32))), (0, .ref (E.1 (13 + 11 * j))), (1, .int x1_5)]) hx hb dX4_payCost_52 hl (k := 2) rfl rfl (by decide) rfl (fun ls hl => ?_)
                refine lv_goto (tgt := 18) hx hb dX4_payCost_55 (by decide) ?_
                exact ih (x2_6 + (1 : Int32)) (zLA L_7 15 (upd (L_7.1.2 15) x1_5.toNatClampNeg ((L_7.1.2 15 x1_5.toNatClampNeg) - ((if (u_11 - (1 : Int32)) < (0 : Int32) then (0 : Int32) else (u_11 - (1 : Int32))) * (L_7.1.1 5))))) _ hF kx_3_0 _ _ _ hP hD hS (lv_sub hl [1, 2, 0] rfl)
          exact lp_3 x1_1 N (0 : Int32) L_2 _ ho_13 kx_3_0 _ _ _ hP hD hS (lv_sub hl [1, 2, 0] rfl)
  exact lp_2 N (0 : Int32) L _ ho_16 kx_2_0 _ _ _ hP hD hS (lv_sub hl [1, 0] rfl)
def fX4_begin_l4 (N : Nat) (x1_8 : Int32) : Nat → Int32 → Option Unit
  | 0, _ => none
  | n + 1, x3_9 =>
    if (8 : Int32) ≤ x3_9 then
      some ()
    else
      some ()
def fX4_begin_l5 (N : Nat) (kc : Nat → zKC) (a_6 : Nat) (x1_13 : Int32) : Nat → Int32 → zLS → Option zLS
  | 0, _, _ => none
  | n + 1, x3_14, L_15 =>
    if (8 : Int32) ≤ x3_14 then
      some L_15
    else
      if (L_15.1.1 7) ≤ x3_14 then
        fX4_begin_l5 N kc a_6 x1_13 n (x3_14 + (1 : Int32)) L_15
      else
        if x3_14 < 0 ∨ 8 ≤ x3_14.toNatClampNeg then none else
        if (((L_15.1.2 13 x3_14.toNatClampNeg) >>> (x1_13 &&& 31)) &&& (1 : Int32)) = (1 : Int32) then
          if ((x1_13 * (8 : Int32)) + x3_14) < 0 ∨ 48 ≤ ((x1_13 * (8 : Int32)) + x3_14).toNatClampNeg then none else
          fX4_begin_l5 N kc a_6 x1_13 n (x3_14 + (1 : Int32)) (zLA L_15 14 (upd (L_15.1.2 14) (((x1_13 * (8 : Int32)) + x3_14).toNatClampNeg) ((kc a_6).2.2.2)))
        else
          fX4_begin_l5 N kc a_6 x1_13 n (x3_14 + (1 : Int32)) L_15
def fX4_begin_l3 (N : Nat) (KL : List Nat) (kc : Nat → zKC) : Nat → Int32 → zLS → Option zLS
  | 0, _, _ => none
  | n + 1, x1_1, L_2 =>
    if (6 : Int32) ≤ x1_1 then
      some L_2
    else
      (fX4_keeperAt N KL kc L_2 x1_1).bind fun u_5 =>
      match u_5 with
      | none =>
        (fX4_begin_l4 N x1_1 N (0 : Int32)).bind (fun _ =>
          fX4_begin_l3 N KL kc n (x1_1 + (1 : Int32)) L_2)
      | some a_6 =>
        if ¬ zkd KL kc a_6 then none else
        (fX4_begin_l5 N kc a_6 x1_1 N (0 : Int32) L_2).bind (fun u_23 =>
          fX4_begin_l3 N KL kc n (x1_1 + (1 : Int32)) u_23)
def fX4_begin (N : Nat) (KL : List Nat) (kc : Nat → zKC) (L : zLS) : Option zLS :=
  (fX4_begin_l3 N KL kc N (0 : Int32) (zLA (zLA (zLA (zLA (zLA (zLi L 8 (0 : Int32)) 14 (zfl (L.1.2 14) 0 48 (0 : Int32))) 15 (zfl (L.1.2 15) 0 6 (0 : Int32))) 16 (zfl (L.1.2 16) 0 6 (0 : Int32))) 17 (zfl (L.1.2 17) 0 8 (0 : Int32))) 18 (zfl (L.1.2 18) 0 8 (-1000000 : Int32)))).bind (fun u_27 =>
    some u_27)
set_option maxHeartbeats 4000000 in
set_option maxRecDepth 100000 in
theorem qX4_begin (l : Launch) (D : va_G) (E : zE) (KL : List Nat) (kc : Nat → zKC) (on : zNS) (rw rd ft tr : zOS) (la : Nat → zLS) (mo : zMS) (j : Nat) (hj : j < 5) (L : zLS) (N sz : Nat)  (out : zLS) (hF : fX4_begin N KL kc L = some out) : zCv l yX4_begin zwX4_begin ({ frames := 1, cells := 0, slots := 0, locals := 23 }) [.ref (E.1 (13 + 11 * j))] D E sz (zW E KL kc on rw rd ft tr (va_up la j L) mo) (zW E KL kc on rw rd ft tr (va_up la j out) mo) 0 0 := by
  refine zent_v (cc := cX4_begin) (nL := 4) (by decide) rfl (Nat.le_of_ble_eq_true rfl) ?_
  intro p e s m args below meth c Q A hx hb hml hown hts hA hK hP hD hS hE ls hl hend
  have hown : s.vm.findClass RX4 = some m.cls := hown
  have hl : lv_has ls 4 [(0, .ref (E.1 (13 + 11 * j)))] := hl
  rw [fX4_begin] at hF
  refine lv_aload_n hx hb dX4_begin_0 rfl (lv_at hl 0 rfl) ?_
  refine lv_iconst (v := 0) hx hb dX4_begin_1 (by decide) ?_
  refine va_put (D := D) (ci := 3) (v := .int (0 : Int32)) (ty := .int) (C := RX4) (T := TX4) (N := 19) hx hb hts (zi iX4) tyX4 tyX4_ok nmX4 hown hK hP hD hS (13 + 11 * j) (zg_L _ _ _ _ _ _ _ _ _ _ hj _) rfl 8 (by decide) (zh hts k0_125) (fun _ h9 => h9) rfl (by decide +kernel) rfl rfl (Nat.le_of_ble_eq_true rfl) dX4_begin_2 (fun H locs hP hD hS => ?_)
  rw [zs_L_8 _ _ _ _ _ _ _ _ _ _ hj] at hP hD
  refine lv_aload_n hx hb dX4_begin_5 rfl (lv_at hl 0 rfl) ?_
  refine va_get (D := D) (ci := 3) (v := .ref (E.1 (13 + 11 * j + 6))) (C := RX4) (T := TX4) (N := 19) hx hb hts (zi iX4) hown hK hP (13 + 11 * j) (zg_L _ _ _ _ _ _ _ _ _ _ hj _) rfl 14 (by decide) (zh hts k0_133) (fun _ h9 => h9) rfl dX4_begin_6 ?_
  refine lv_iconst (v := 0) hx hb dX4_begin_9 (by decide) ?_
  refine zcall_v (va_runS (As := [.ref (E.1 (13 + 11 * j + 6)), .int (0 : Int32)]) (rest := []) ⟨hx, hb, hml, hown, hts⟩ (zfill l D E _ (13 + 11 * j + 6) (zg_L_14 _ _ _ _ _ _ _ _ _ _ hj _) _ (by decide) (0 : Int32)) (va_cwS 2 hts (zgS k2_81 k0_36 k0_3 k0_37) rfl rfl rfl (by decide +kernel) ⟨Nat.le_of_ble_eq_true rfl, Nat.le_of_ble_eq_true rfl⟩) (zps hE hS hA hK hP hD) rfl rfl hl.1 rfl (lv_room (Nat.le_of_ble_eq_true rfl)) dX4_begin_10 ⟨Nat.zero_le _, Nat.zero_le _⟩) hD hS hA (fun H locs hP hD hS => ?_)
  rw [zs_L_14 _ _ _ _ _ _ _ _ _ _ hj] at hP hD
  have hP : va_P D vwCl (zW E KL kc on rw rd ft tr (va_up la j (zLA (zLi L 8 (0 : Int32)) 14 (zfl (L.1.2 14) 0 48 (0 : Int32)))) mo) H := hP
  have hD : va_D A (zW E KL kc on rw rd ft tr (va_up la j (zLA (zLi L 8 (0 : Int32)) 14 (zfl (L.1.2 14) 0 48 (0 : Int32)))) mo) := hD
  refine lv_aload_n hx hb dX4_begin_13 rfl (lv_at hl 0 rfl) ?_
  refine va_get (D := D) (ci := 3) (v := .ref (E.1 (13 + 11 * j + 7))) (C := RX4) (T := TX4) (N := 19) hx hb hts (zi iX4) hown hK hP (13 + 11 * j) (zg_L _ _ _ _ _ _ _ _ _ _ hj _) rfl 15 (by decide) (zh hts k0_134) (fun _ h9 => h9) rfl dX4_begin_14 ?_
  refine lv_iconst (v := 0) hx hb dX4_begin_17 (by decide) ?_
  refine zcall_v (va_runS (As := [.ref (E.1 (13 + 11 * j + 7)), .int (0 : Int32)]) (rest := []) ⟨hx, hb, hml, hown, hts⟩ (zfill l D E _ (13 + 11 * j + 7) (zg_L_15 _ _ _ _ _ _ _ _ _ _ hj _) _ (by decide) (0 : Int32)) (va_cwS 2 hts (zgS k2_81 k0_36 k0_3 k0_37) rfl rfl rfl (by decide +kernel) ⟨Nat.le_of_ble_eq_true rfl, Nat.le_of_ble_eq_true rfl⟩) (zps hE hS hA hK hP hD) rfl rfl hl.1 rfl (lv_room (Nat.le_of_ble_eq_true rfl)) dX4_begin_18 ⟨Nat.zero_le _, Nat.zero_le _⟩) hD hS hA (fun H locs hP hD hS => ?_)
  rw [zs_L_15 _ _ _ _ _ _ _ _ _ _ hj] at hP hD
  have hP : va_P D vwCl (zW E KL kc on rw rd ft tr (va_up la j (zLA (zLA (zLi L 8 (0 : Int32)) 14 (zfl (L.1.2 14) 0 48 (0 : Int32))) 15 (zfl (L.1.2 15) 0 6 (0 : Int32)))) mo) H := hP
  have hD : va_D A (zW E KL kc on rw rd ft tr (va_up la j (zLA (zLA (zLi L 8 (0 : Int32)) 14 (zfl (L.1.2 14) 0 48 (0 : Int32))) 15 (zfl (L.1.2 15) 0 6 (0 : Int32)))) mo) := hD
  refine lv_aload_n hx hb dX4_begin_21 rfl (lv_at hl 0 rfl) ?_
  refine va_get (D := D) (ci := 3) (v := .ref (E.1 (13 + 11 * j + 8))) (C := RX4) (T := TX4) (N := 19) hx hb hts (zi iX4) hown hK hP (13 + 11 * j) (zg_L _ _ _ _ _ _ _ _ _ _ hj _) rfl 16 (by decide) (zh hts k0_135) (fun _ h9 => h9) rfl dX4_begin_22 ?_
  refine lv_iconst (v := 0) hx hb dX4_begin_25 (by decide) ?_
  refine zcall_v (va_runS (As := [.ref (E.1 (13 + 11 * j + 8)), .int (0 : Int32)]) (rest := []) ⟨hx, hb, hml, hown, hts⟩ (zfill l D E _ (13 + 11 * j + 8) (zg_L_16 _ _ _ _ _ _ _ _ _ _ hj _) _ (by decide) (0 : Int32)) (va_cwS 2 hts (zgS k2_81 k0_36 k0_3 k0_37) rfl rfl rfl (by decide +kernel) ⟨Nat.le_of_ble_eq_true rfl, Nat.le_of_ble_eq_true rfl⟩) (zps hE hS hA hK hP hD) rfl rfl hl.1 rfl (lv_room (Nat.le_of_ble_eq_true rfl)) dX4_begin_26 ⟨Nat.zero_le _, Nat.zero_le _⟩) hD hS hA (fun H locs hP hD hS => ?_)
  rw [zs_L_16 _ _ _ _ _ _ _ _ _ _ hj] at hP hD
  have hP : va_P D vwCl (zW E KL kc on rw rd ft tr (va_up la j (zLA (zLA (zLA (zLi L 8 (0 : Int32)) 14 (zfl (L.1.2 14) 0 48 (0 : Int32))) 15 (zfl (L.1.2 15) 0 6 (0 : Int32))) 16 (zfl (L.1.2 16) 0 6 (0 : Int32)))) mo) H := hP
  have hD : va_D A (zW E KL kc on rw rd ft tr (va_up la j (zLA (zLA (zLA (zLi L 8 (0 : Int32)) 14 (zfl (L.1.2 14) 0 48 (0 : Int32))) 15 (zfl (L.1.2 15) 0 6 (0 : Int32))) 16 (zfl (L.1.2 16) 0 6 (0 : Int32)))) mo) := hD
  refine lv_aload_n hx hb dX4_begin_29 rfl (lv_at hl 0 rfl) ?_
  refine va_get (D := D) (ci := 3) (v := .ref (E.1 (13 + 11 * j + 9))) (C := RX4) (T := TX4) (N := 19) hx hb hts (zi iX4) hown hK hP (13 + 11 * j) (zg_L _ _ _ _ _ _ _ _ _ _ hj _) rfl 17 (by decide) (zh hts k0_136) (fun _ h9 => h9) rfl dX4_begin_30 ?_
  refine lv_iconst (v := 0) hx hb dX4_begin_33 (by decide) ?_
  refine zcall_v (va_runS (As := [.ref (E.1 (13 + 11 * j + 9)), .int (0 : Int32)]) (rest := []) ⟨hx, hb, hml, hown, hts⟩ (zfill l D E _ (13 + 11 * j + 9) (zg_L_17 _ _ _ _ _ _ _ _ _ _ hj _) _ (by decide) (0 : Int32)) (va_cwS 2 hts (zgS k2_81 k0_36 k0_3 k0_37) rfl rfl rfl (by decide +kernel) ⟨Nat.le_of_ble_eq_true rfl, Nat.le_of_ble_eq_true rfl⟩) (zps hE hS hA hK hP hD) rfl rfl hl.1 rfl (lv_room (Nat.le_of_ble_eq_true rfl)) dX4_begin_34 ⟨Nat.zero_le _, Nat.zero_le _⟩) hD hS hA (fun H locs hP hD hS => ?_)
  rw [zs_L_17 _ _ _ _ _ _ _ _ _ _ hj] at hP hD
  have hP : va_P D vwCl (zW E KL kc on rw rd ft tr (va_up la j (zLA (zLA (zLA (zLA (zLi L 8 (0 : Int32)) 14 (zfl (L.1.2 14) 0 48 (0 : Int32))) 15 (zfl (L.1.2 15) 0 6 (0 : Int32))) 16 (zfl (L.1.2 16) 0 6 (0 : Int32))) 17 (zfl (L.1.2 17) 0 8 (0 : Int32)))) mo) H := hP
  have hD : va_D A (zW E KL kc on rw rd ft tr (va_up la j (zLA (zLA (zLA (zLA (zLi L 8 (0 : Int32)) 14 (zfl (L.1.2 14) 0 48 (0 : Int32))) 15 (zfl (L.1.2 15) 0 6 (0 : Int32))) 16 (zfl (L.1.2 16) 0 6 (0 : Int32))) 17 (zfl (L.1.2 17) 0 8 (0 : Int32)))) mo) := hD
  refine lv_aload_n hx hb dX4_begin_37 rfl (lv_at hl 0 rfl) ?_
  refine va_get (D := D) (ci := 3) (v := .ref (E.1 (13 + 11 * j + 10))) (C := RX4) (T := TX4) (N := 19) hx hb hts (zi iX4) hown hK hP (13 + 11 * j) (zg_L _ _ _ _ _ _ _ _ _ _ hj _) rfl 18 (by decide) (zh hts k0_137) (fun _ h9 => h9) rfl dX4_begin_38 ?_
  refine lv_ldc (own := RX4) (v := -1000000) hx hb hown (zh hts k2_82) dX4_begin_41 ?_
  refine zcall_v (va_runS (As := [.ref (E.1 (13 + 11 * j + 10)), .int (-1000000 : Int32)]) (rest := []) ⟨hx, hb, hml, hown, hts⟩ (zfill l D E _ (13 + 11 * j + 10) (zg_L_18 _ _ _ _ _ _ _ _ _ _ hj _) _ (by decide) (-1000000 : Int32)) (va_cwS 2 hts (zgS k2_81 k0_36 k0_3 k0_37) rfl rfl rfl (by decide +kernel) ⟨Nat.le_of_ble_eq_true rfl, Nat.le_of_ble_eq_true rfl⟩) (zps hE hS hA hK hP hD) rfl rfl hl.1 rfl (lv_room (Nat.le_of_ble_eq_true rfl)) dX4_begin_43 ⟨Nat.zero_le _, Nat.zero_le _⟩) hD hS hA (fun H locs hP hD hS => ?_)
  rw [zs_L_18 _ _ _ _ _ _ _ _ _ _ hj] at hP hD
  have hP : va_P D vwCl (zW E KL kc on rw rd ft tr (va_up la j (zLA (zLA (zLA (zLA (zLA (zLi L 8 (0 : Int32)) 14 (zfl (L.1.2 14) 0 48 (0 : Int32))) 15 (zfl (L.1.2 15) 0 6 (0 : Int32))) 16 (zfl (L.1.2 16) 0 6 (0 : Int32))) 17 (zfl (L.1.2 17) 0 8 (0 : Int32))) 18 (zfl (L.1.2 18) 0 8 (-1000000 : Int32)))) mo) H := hP
  have hD : va_D A (zW E KL kc on rw rd ft tr (va_up la j (zLA (zLA (zLA (zLA (zLA (zLi L 8 (0 : Int32)) 14 (zfl (L.1.2 14) 0 48 (0 : Int32))) 15 (zfl (L.1.2 15) 0 6 (0 : Int32))) 16 (zfl (L.1.2 16) 0 6 (0 : Int32))) 17 (zfl (L.1.2 17) 0 8 (0 : Int32))) 18 (zfl (L.1.2 18) 0 8 (-1000000 : Int32)))) mo) := hD
  refine lv_iconst (v := 0) hx hb dX4_begin_46 (by decide) ?_
  refine lv_istore_n (lv' := [(1, .int (0 : Int32)), (0, .ref (E.1 (13 + 11 * j)))]) hx hb dX4_begin_47 rfl hl (by decide) rfl (fun ls hl => ?_)
  obtain ⟨o_25, ho_25, hF⟩ := zbd hF
  have kx_3_0 : ∀ (L_26 : zLS), L_26 = o_25 → ∀ (H : Heap) (locs : List Loc) (ls : Array Slot), va_P D vwCl (zW E KL kc on rw rd ft tr (va_up la j L_26) mo) H → va_D A (zW E KL kc on rw rd ft tr (va_up la j L_26) mo) → va_S A s.heap H locs → lv_has ls 4 [] → W p l e ({ frames := 1, cells := 0, slots := 0, locals := 23 } : Room) s m args below meth c H locs 0 0 Q (F0 m 121 ls []) := by
    intro L_26 ho H locs ls hP hD hS hl
    subst ho
    obtain rfl := Option.some.inj hF
    exact hend _ _ _ _ hP hD hS dX4_begin_121
  have lp_3 : ∀ (n : Nat) (x1_1 : Int32) (L_2 : zLS) (o : zLS), fX4_begin_l3 N KL kc n x1_1 L_2 = some o → (∀ (L_26 : zLS), L_26 = o → ∀ (H : Heap) (locs : List Loc) (ls : Array Slot), va_P D vwCl (zW E KL kc on rw rd ft tr (va_up la j L_26) mo) H → va_D A (zW E KL kc on rw rd ft tr (va_up la j L_26) mo) → va_S A s.heap H locs → lv_has ls 4 [] → W p l e ({ frames := 1, cells := 0, slots := 0, locals := 23 } : Room) s m args below meth c H locs 0 0 Q (F0 m 121 ls [])) → ∀ (H : Heap) (locs : List Loc) (ls : Array Slot), va_P D vwCl (zW E KL kc on rw rd ft tr (va_up la j L_2) mo) H → va_D A (zW E KL kc on rw rd ft tr (va_up la j L_2) mo) → va_S A s.heap H locs → lv_has ls 4 [(0, .ref (E.1 (13 + 11 * j))), (1, .int x1_1)] → W p l e ({ frames := 1, cells := 0, slots := 0, locals := 23 } : Room) s m args below meth c H locs 0 0 Q (F0 m 48 ls []) := by
    intro n
    induction n with
    | zero =>
      intro x1_1 L_2 o hF
      exact znone hF
    | succ n ih =>
      intro x1_1 L_2 o hF kx_3_0 H locs ls hP hD hS hl
      rw [fX4_begin_l3] at hF
      refine lv_iload_n hx hb dX4_begin_48 rfl (lv_at hl 1 rfl) ?_
      refine lv_bipush (v := 6) hx hb dX4_begin_49 (by decide) ?_
      refine lv_icmp_ge (tgt := 121) hx hb dX4_begin_51 (by decide) (fun c_3 => ?_) (fun c_3 => ?_)
      · have hF := zit c_3 hF
        exact kx_3_0 L_2 (Option.some.inj hF) _ _ _ hP hD hS (lv_sub hl [] rfl)
      · have hF := zif c_3 hF
        refine lv_aload_n hx hb dX4_begin_54 rfl (lv_at hl 0 rfl) ?_
        refine lv_iload_n hx hb dX4_begin_55 rfl (lv_at hl 1 rfl) ?_
        have hrv_4 := (va_recv hK hP (ci := 3) (q0 := 13 + 11 * j) rfl (zg_L _ _ _ _ _ _ _ _ _ _ hj _))
        obtain ⟨u_5, hu_5, hF⟩ := zbd hF
        refine zcall_q (va_runV (As := [.int x1_1]) (rest := []) ⟨hx, hb, hml, hown, hts⟩ (qX4_keeperAt l D E KL kc on rw rd ft tr la mo j hj L_2 N _ x1_1 _ hu_5) (cwV 1 hts (zgV k2_83 k2_84 k2_85 k0_6 k2_86) rfl rfl rfl (by decide +kernel) ⟨Nat.le_of_ble_eq_true rfl, Nat.le_of_ble_eq_true rfl⟩) (zpv hE hS hA hK hP hD hrv_4) rfl rfl hl.1 rfl (lv_room (Nat.le_of_ble_eq_true rfl)) dX4_begin_56 ⟨Nat.zero_le _, Nat.zero_le _⟩) hD hS hA (fun H locs hP hD hS => ?_)
        cases u_5 with
        | none =>
          refine lv_astore_nN (lv' := [(2, .null), (0, .ref (E.1 (13 + 11 * j))), (1, .int x1_1)]) hx hb dX4_begin_59 rfl hl (by decide) rfl (fun ls hl => ?_)
          refine lv_iconst (v := 0) hx hb dX4_begin_60 (by decide) ?_
          refine lv_istore_n (lv' := [(3, .int (0 : Int32)), (2, .null), (0, .ref (E.1 (13 + 11 * j))), (1, .int x1_1)]) hx hb dX4_begin_61 rfl hl (by decide) rfl (fun ls hl => ?_)
          obtain ⟨o_11, ho_11, hF⟩ := zbd hF
          have kx_4_0 : () = o_11 → ∀ (H : Heap) (locs : List Loc) (ls : Array Slot), va_P D vwCl (zW E KL kc on rw rd ft tr (va_up la j L_2) mo) H → va_D A (zW E KL kc on rw rd ft tr (va_up la j L_2) mo) → va_S A s.heap H locs → lv_has ls 4 [(0, .ref (E.1 (13 + 11 * j))), (1, .int x1_1)] → W p l e ({ frames := 1, cells := 0, slots := 0, locals := 23 } : Room) s m args below meth c H locs 0 0 Q (F0 m 115 ls []) := by
            intro ho H locs ls hP hD hS hl
            subst ho
            refine lv_iinc (v := x1_1 + (1 : Int32)) (lv' := [(1, .int (x1_1 + (1 : Int32))), (0, .ref (E.1 (13 + 11 * j)))]) hx hb dX4_begin_115 hl (k := 1) rfl rfl (by decide) rfl (fun ls hl => ?_)
            refine lv_goto (tgt := 48) hx hb dX4_begin_118 (by decide) ?_
            exact ih (x1_1 + (1 : Int32)) L_2 _ hF kx_3_0 _ _ _ hP hD hS (lv_sub hl [1, 0] rfl)
          have lp_4 : ∀ (x1_8 : Int32) (n : Nat) (x3_9 : Int32) (o : Unit), fX4_begin_l4 N x1_8 n x3_9 = some o → (() = o → ∀ (H : Heap) (locs : List Loc) (ls : Array Slot), va_P D vwCl (zW E KL kc on rw rd ft tr (va_up la j L_2) mo) H → va_D A (zW E KL kc on rw rd ft tr (va_up la j L_2) mo) → va_S A s.heap H locs → lv_has ls 4 [(0, .ref (E.1 (13 + 11 * j))), (1, .int x1_8)] → W p l e ({ frames := 1, cells := 0, slots := 0, locals := 23 } : Room) s m args below meth c H locs 0 0 Q (F0 m 115 ls [])) → ∀ (H : Heap) (locs : List Loc) (ls : Array Slot), va_P D vwCl (zW E KL kc on rw rd ft tr (va_up la j L_2) mo) H → va_D A (zW E KL kc on rw rd ft tr (va_up la j L_2) mo) → va_S A s.heap H locs → lv_has ls 4 [(0, .ref (E.1 (13 + 11 * j))), (1, .int x1_8), (2, .null), (3, .int x3_9)] → W p l e ({ frames := 1, cells := 0, slots := 0, locals := 23 } : Room) s m args below meth c H locs 0 0 Q (F0 m 62 ls []) := by
            intro x1_8 n
            induction n with
            | zero =>
              intro x3_9 o hF
              exact znone hF
            | succ n ih =>
              intro x3_9 o hF kx_4_0 H locs ls hP hD hS hl
              rw [fX4_begin_l4] at hF
              refine lv_iload_n hx hb dX4_begin_62 rfl (lv_at hl 3 rfl) ?_
              refine lv_bipush (v := 8) hx hb dX4_begin_63 (by decide) ?_
              refine lv_icmp_ge (tgt := 115) hx hb dX4_begin_65 (by decide) (fun c_10 => ?_) (fun c_10 => ?_)
              · have hF := zit c_10 hF
                exact kx_4_0 (Option.some.inj hF) _ _ _ hP hD hS (lv_sub hl [0, 1] rfl)
              · have hF := zif c_10 hF
                refine lv_aload_nN hx hb dX4_begin_68 rfl (lv_at hl 2 rfl) ?_
                refine lv_ifnullN (tgt := 115) hx hb dX4_begin_69 (by decide) ?_
                exact kx_4_0 (Option.some.inj hF) _ _ _ hP hD hS (lv_sub hl [0, 1] rfl)
          exact lp_4 x1_1 N (0 : Int32) _ ho_11 kx_4_0 _ _ _ hP hD hS (lv_sub hl [2, 3, 1, 0] rfl)
        | some a_6 =>
          obtain ⟨k_7, hF⟩ := zgd hF
          have k_7 := Decidable.not_not.mp k_7
          have km_6 := k_7.1
          have k_7 := k_7.2
          refine lv_astore_n (lv' := [(2, .ref a_6), (0, .ref (E.1 (13 + 11 * j))), (1, .int x1_1)]) hx hb dX4_begin_59 rfl hl (by decide) rfl (fun ls hl => ?_)
          refine lv_iconst (v := 0) hx hb dX4_begin_60 (by decide) ?_
          refine lv_istore_n (lv' := [(3, .int (0 : Int32)), (2, .ref a_6), (0, .ref (E.1 (13 + 11 * j))), (1, .int x1_1)]) hx hb dX4_begin_61 rfl hl (by decide) rfl (fun ls hl => ?_)
          obtain ⟨o_21, ho_21, hF⟩ := zbd hF
          have kx_5_0 : ∀ (L_22 : zLS), L_22 = o_21 → ∀ (H : Heap) (locs : List Loc) (ls : Array Slot), va_P D vwCl (zW E KL kc on rw rd ft tr (va_up la j L_22) mo) H → va_D A (zW E KL kc on rw rd ft tr (va_up la j L_22) mo) → va_S A s.heap H locs → lv_has ls 4 [(0, .ref (E.1 (13 + 11 * j))), (1, .int x1_1)] → W p l e ({ frames := 1, cells := 0, slots := 0, locals := 23 } : Room) s m args below meth c H locs 0 0 Q (F0 m 115 ls []) := by
            intro L_22 ho H locs ls hP hD hS hl
            subst ho
            refine lv_iinc (v := x1_1 + (1 : Int32)) (lv' := [(1, .int (x1_1 + (1 : Int32))), (0, .ref (E.1 (13 + 11 * j)))]) hx hb dX4_begin_115 hl (k := 1) rfl rfl (by decide) rfl (fun ls hl => ?_)
            refine lv_goto (tgt := 48) hx hb dX4_begin_118 (by decide) ?_
            exact ih (x1_1 + (1 : Int32)) L_22 _ hF kx_3_0 _ _ _ hP hD hS (lv_sub hl [1, 0] rfl)
          have lp_5 : ∀ (x1_13 : Int32) (n : Nat) (x3_14 : Int32) (L_15 : zLS) (o : zLS), fX4_begin_l5 N kc a_6 x1_13 n x3_14 L_15 = some o → (∀ (L_22 : zLS), L_22 = o → ∀ (H : Heap) (locs : List Loc) (ls : Array Slot), va_P D vwCl (zW E KL kc on rw rd ft tr (va_up la j L_22) mo) H → va_D A (zW E KL kc on rw rd ft tr (va_up la j L_22) mo) → va_S A s.heap H locs → lv_has ls 4 [(0, .ref (E.1 (13 + 11 * j))), (1, .int x1_13)] → W p l e ({ frames := 1, cells := 0, slots := 0, locals := 23 } : Room) s m args below meth c H locs 0 0 Q (F0 m 115 ls [])) → ∀ (H : Heap) (locs : List Loc) (ls : Array Slot), va_P D vwCl (zW E KL kc on rw rd ft tr (va_up la j L_15) mo) H → va_D A (zW E KL kc on rw rd ft tr (va_up la j L_15) mo) → va_S A s.heap H locs → lv_has ls 4 [(0, .ref (E.1 (13 + 11 * j))), (1, .int x1_13), (2, .ref a_6), (3, .int x3_14)] → W p l e ({ frames := 1, cells := 0, slots := 0, locals := 23 } : Room) s m args below meth c H locs 0 0 Q (F0 m 62 ls []) := by
            intro x1_13 n
            induction n with
            | zero =>
              intro x3_14 L_15 o hF
              exact znone hF
            | succ n ih =>
              intro x3_14 L_15 o hF kx_5_0 H locs ls hP hD hS hl
              rw [fX4_begin_l5] at hF
              refine lv_iload_n hx hb dX4_begin_62 rfl (lv_at hl 3 rfl) ?_
              refine lv_bipush (v := 8) hx hb dX4_begin_63 (by decide) ?_
              refine lv_icmp_ge (tgt := 115) hx hb dX4_begin_65 (by decide) (fun c_16 => ?_) (fun c_16 => ?_)
              · have hF := zit c_16 hF
                exact kx_5_0 L_15 (Option.some.inj hF) _ _ _ hP hD hS (lv_sub hl [0, 1] rfl)
              · have hF := zif c_16 hF
                refine lv_aload_n hx hb dX4_begin_68 rfl (lv_at hl 2 rfl) ?_
                refine lv_ifnull hx hb dX4_begin_69 ?_
                refine lv_iload_n hx hb dX4_begin_72 rfl (lv_at hl 3 rfl) ?_
                refine lv_aload_n hx hb dX4_begin_73 rfl (lv_at hl 0 rfl) ?_
                refine va_get (D := D) (ci := 3) (v := .int (L_15.1.1 7)) (C := RX4) (T := TX4) (N := 19) hx hb hts (zi iX4) hown hK hP (13 + 11 * j) (zg_L _ _ _ _ _ _ _ _ _ _ hj _) rfl 7 (by decide) (zh hts k0_121) (fun _ h9 => h9) rfl dX4_begin_74 ?_
                refine lv_icmp_ge (tgt := 109) hx hb dX4_begin_77 (by decide) (fun c_17 => ?_) (fun c_17 => ?_)
                · have hF := zit c_17 hF
                  refine lv_iinc (v := x3_14 + (1 : Int32)) (lv' := [(3, .int (x3_14 + (1 : Int32))), (0, .ref (E.1 (13 + 11 * j))), (1, .int x1_13), (2, .ref a_6)]) hx hb dX4_begin_109 hl (k := 3) rfl rfl (by decide) rfl (fun ls hl => ?_)
                  refine lv_goto (tgt := 62) hx hb dX4_begin_112 (by decide) ?_
                  exact ih (x3_14 + (1 : Int32)) L_15 _ hF kx_5_0 _ _ _ hP hD hS (lv_sub hl [1, 2, 3, 0] rfl)
                · have hF := zif c_17 hF
                  refine lv_aload_n hx hb dX4_begin_80 rfl (lv_at hl 0 rfl) ?_
                  refine va_get (D := D) (ci := 3) (v := .ref (E.1 (13 + 11 * j + 5))) (C := RX4) (T := TX4) (N := 19) hx hb hts (zi iX4) hown hK hP (13 + 11 * j) (zg_L _ _ _ _ _ _ _ _ _ _ hj _) rfl 13 (by decide) (zh hts k0_132) (fun _ h9 => h9) rfl dX4_begin_81 ?_
                  refine lv_iload_n hx hb dX4_begin_84 rfl (lv_at hl 3 rfl) ?_
                  obtain ⟨g_18, hF⟩ := zgd hF
                  refine ziald (v := L_15.1.2 13 x3_14.toNatClampNeg) hx hb hK hP (13 + 11 * j + 5) 1 (zg_L_13 _ _ _ _ _ _ _ _ _ _ hj _) rfl g_18 rfl dX4_begin_85 ?_
                  refine lv_iload_n hx hb dX4_begin_86 rfl (lv_at hl 1 rfl) ?_
                  refine lv_ishr hx hb dX4_begin_87 ?_
                  refine lv_iconst (v := 1) hx hb dX4_begin_88 (by decide) ?_
                  refine lv_iand hx hb dX4_begin_89 ?_
                  refine lv_iconst (v := 1) hx hb dX4_begin_90 (by decide) ?_
                  refine lv_icmp_ne (tgt := 109) hx hb dX4_begin_91 (by decide) (fun c_19 => ?_) (fun c_19 => ?_)
                  · have hF := zif c_19 hF
                    refine lv_iinc (v := x3_14 + (1 : Int32)) (lv' := [(3, .int (x3_14 + (1 : Int32))), (0, .ref (E.1 (13 + 11 * j))), (1, .int x1_13), (2, .ref a_6)]) hx hb dX4_begin_109 hl (k := 3) rfl rfl (by decide) rfl (fun ls hl => ?_)
                    refine lv_goto (tgt := 62) hx hb dX4_begin_112 (by decide) ?_
                    exact ih (x3_14 + (1 : Int32)) L_15 _ hF kx_5_0 _ _ _ hP hD hS (lv_sub hl [1, 2, 3, 0] rfl)
                  · have hF := zit c_19 hF
                    refine lv_aload_n hx hb dX4_begin_94 rfl (lv_at hl 0 rfl) ?_
                    refine va_get (D := D) (ci := 3) (v := .ref (E.1 (13 + 11 * j + 6))) (C := RX4) (T := TX4) (N := 19) hx hb hts (zi iX4) hown hK hP (13 + 11 * j) (zg_L _ _ _ _ _ _ _ _ _ _ hj _) rfl 14 (by decide) (zh hts k0_133) (fun _ h9 => h9) rfl dX4_begin_95 ?_
                    refine lv_iload_n hx hb dX4_begin_98 rfl (lv_at hl 1 rfl) ?_
                    refine lv_bipush (v := 8) hx hb dX4_begin_99 (by decide) ?_
                    refine lv_imul hx hb dX4_begin_101 ?_
                    refine lv_iload_n hx hb dX4_begin_102 rfl (lv_at hl 3 rfl) ?_
                    refine lv_iadd hx hb dX4_begin_103 ?_
                    refine lv_aload_n hx hb dX4_begin_104 rfl (lv_at hl 2 rfl) ?_
                    refine zgetK (v := (kc a_6).2.2.2) hx hb hts hown hK hP km_6 (by omega) 2 (by decide) (name := "c") rfl (zh hts k2_16) (fun _ h9 => h9) rfl dX4_begin_105 ?_
                    obtain ⟨g_20, hF⟩ := zgd hF
                    refine va_iast hx hb hK hP hD hS (13 + 11 * j + 6) 1 (zg_L_14 _ _ _ _ _ _ _ _ _ _ hj _) rfl g_20 dX4_begin_108 (fun H locs hP hD hS => ?_)
                    rw [zs_L_14 _ _ _ _ _ _ _ _ _ _ hj] at hP hD
                    have hP : va_P D vwCl (zW E KL kc on rw rd ft tr (va_up la j (zLA L_15 14 (upd (L_15.1.2 14) (((x1_13 * (8 : Int32)) + x3_14).toNatClampNeg) ((kc a_6).2.2.2)))) mo) H := hP
                    have hD : va_D A (zW E KL kc on rw rd ft tr (va_up la j (zLA L_15 14 (upd (L_15.1.2 14) (((x1_13 * (8 : Int32)) + x3_14).toNatClampNeg) ((kc a_6).2.2.2)))) mo) := hD
                    refine lv_iinc (v := x3_14 + (1 : Int32)) (lv' := [(3, .int (x3_14 + (1 : Int32))), (0, .ref (E.1 (13 + 11 * j))), (1, .int x1_13), (2, .ref a_6)]) hx hb dX4_begin_109 hl (k := 3) rfl rfl (by decide) rfl (fun ls hl => ?_)
                    refine lv_goto (tgt := 62) hx hb dX4_begin_112 (by decide) ?_
                    exact ih (x3_14 + (1 : Int32)) (zLA L_15 14 (upd (L_15.1.2 14) (((x1_13 * (8 : Int32)) + x3_14).toNatClampNeg) ((kc a_6).2.2.2))) _ hF kx_5_0 _ _ _ hP hD hS (lv_sub hl [1, 2, 3, 0] rfl)
          exact lp_5 x1_1 N (0 : Int32) L_2 _ ho_21 kx_5_0 _ _ _ hP hD hS (lv_sub hl [2, 3, 1, 0] rfl)
  exact lp_3 N (0 : Int32) (zLA (zLA (zLA (zLA (zLA (zLi L 8 (0 : Int32)) 14 (zfl (L.1.2 14) 0 48 (0 : Int32))) 15 (zfl (L.1.2 15) 0 6 (0 : Int32))) 16 (zfl (L.1.2 16) 0 6 (0 : Int32))) 17 (zfl (L.1.2 17) 0 8 (0 : Int32))) 18 (zfl (L.1.2 18) 0 8 (-1000000 : Int32))) _ ho_25 kx_3_0 _ _ _ hP hD hS (lv_sub hl [1, 0] rfl)
def fX4_beginWith (N : Nat) (KL : List Nat) (kc : Nat → zKC) (L : zLS) (x1 : Int32) : Option zLS :=
  (fX4_begin N KL kc (zLA (zLi L 7 (1 : Int32)) 13 (upd (L.1.2 13) ((0 : Int32).toNatClampNeg) x1))).bind fun u_2 =>
  some u_2
set_option maxHeartbeats 4000000 in
set_option maxRecDepth 100000 in
theorem qX4_beginWith (l : Launch) (D : va_G) (E : zE) (KL : List Nat) (kc : Nat → zKC) (on : zNS) (rw rd ft tr : zOS) (la : Nat → zLS) (mo : zMS) (j : Nat) (hj : j < 5) (L : zLS) (N sz : Nat) (x1 : Int32) (out : zLS) (hF : fX4_beginWith N KL kc L x1 = some out) : zCv l yX4_beginWith zwX4_beginWith ({ frames := 2, cells := 0, slots := 0, locals := 46 }) [.ref (E.1 (13 + 11 * j)), .int x1] D E sz (zW E KL kc on rw rd ft tr (va_up la j L) mo) (zW E KL kc on rw rd ft tr (va_up la j out) mo) 0 0 := by
  refine zent_v (cc := cX4_beginWith) (nL := 2) (by decide) rfl (Nat.le_of_ble_eq_true rfl) ?_
  intro p e s m args below meth c Q A hx hb hml hown hts hA hK hP hD hS hE ls hl hend
  have hown : s.vm.findClass RX4 = some m.cls := hown
  have hl : lv_has ls 2 [(0, .ref (E.1 (13 + 11 * j))), (1, .int x1)] := hl
  rw [fX4_beginWith] at hF
  refine lv_aload_n hx hb dX4_beginWith_0 rfl (lv_at hl 0 rfl) ?_
  refine lv_iconst (v := 1) hx hb dX4_beginWith_1 (by decide) ?_
  refine va_put (D := D) (ci := 3) (v := .int (1 : Int32)) (ty := .int) (C := RX4) (T := TX4) (N := 19) hx hb hts (zi iX4) tyX4 tyX4_ok nmX4 hown hK hP hD hS (13 + 11 * j) (zg_L _ _ _ _ _ _ _ _ _ _ hj _) rfl 7 (by decide) (zh hts k0_121) (fun _ h9 => h9) rfl (by decide +kernel) rfl rfl (Nat.le_of_ble_eq_true rfl) dX4_beginWith_2 (fun H locs hP hD hS => ?_)
  rw [zs_L_7 _ _ _ _ _ _ _ _ _ _ hj] at hP hD
  refine lv_aload_n hx hb dX4_beginWith_5 rfl (lv_at hl 0 rfl) ?_
  refine va_get (D := D) (ci := 3) (v := .ref (E.1 (13 + 11 * j + 5))) (C := RX4) (T := TX4) (N := 19) hx hb hts (zi iX4) hown hK hP (13 + 11 * j) (zg_L _ _ _ _ _ _ _ _ _ _ hj _) rfl 13 (by decide) (zh hts k0_132) (fun _ h9 => h9) rfl dX4_beginWith_6 ?_
  refine lv_iconst (v := 0) hx hb dX4_beginWith_9 (by decide) ?_
  refine lv_iload_n hx hb dX4_beginWith_10 rfl (lv_at hl 1 rfl) ?_
  refine va_iast hx hb hK hP hD hS (13 + 11 * j + 5) 1 (zg_L_13 _ _ _ _ _ _ _ _ _ _ hj _) rfl (show vp_in 0 8 from by unfold vp_in; decide) dX4_beginWith_11 (fun H locs hP hD hS => ?_)
  rw [zs_L_13 _ _ _ _ _ _ _ _ _ _ hj] at hP hD
  have hP : va_P D vwCl (zW E KL kc on rw rd ft tr (va_up la j (zLA (zLi L 7 (1 : Int32)) 13 (upd (L.1.2 13) ((0 : Int32).toNatClampNeg) x1))) mo) H := hP
  have hD : va_D A (zW E KL kc on rw rd ft tr (va_up la j (zLA (zLi L 7 (1 : Int32)) 13 (upd (L.1.2 13) ((0 : Int32).toNatClampNeg) x1))) mo) := hD
  refine lv_aload_n hx hb dX4_beginWith_12 rfl (lv_at hl 0 rfl) ?_
  have hrv_1 := (va_recv hK hP (ci := 3) (q0 := 13 + 11 * j) rfl (zg_L _ _ _ _ _ _ _ _ _ _ hj _))
  obtain ⟨u_2, hu_2, hF⟩ := zbd hF
  refine zcall_v (va_runV (As := []) (rest := []) ⟨hx, hb, hml, hown, hts⟩ (qX4_begin l D E KL kc on rw rd ft tr la mo j hj (zLA (zLi L 7 (1 : Int32)) 13 (upd (L.1.2 13) ((0 : Int32).toNatClampNeg) x1)) N _ _ hu_2) (cwV 0 hts (zgV k3_135 k2_78 k2_79 k0_6 k2_80) rfl rfl rfl (by decide +kernel) ⟨Nat.le_of_ble_eq_true rfl, Nat.le_of_ble_eq_true rfl⟩) (zpv hE hS hA hK hP hD hrv_1) rfl rfl hl.1 rfl (lv_room (Nat.le_of_ble_eq_true rfl)) dX4_beginWith_13 ⟨Nat.zero_le _, Nat.zero_le _⟩) hD hS hA (fun H locs hP hD hS => ?_)
  obtain rfl := Option.some.inj hF
  exact hend _ _ _ _ hP hD hS dX4_beginWith_16
def fX4_valueAt_l1 (N : Nat) (L_4 : zLS) (x2_2 : Int32) : Nat → Int32 → Option (Sum Unit Int32)
  | 0, _ => none
  | n + 1, x3_3 =>
    if (L_4.1.1 2) ≤ x3_3 then
      some (Sum.inl ())
    else
      if (8 : Int32) ≤ x3_3 then
        some (Sum.inl ())
      else
        if x3_3 < 0 ∨ 8 ≤ x3_3.toNatClampNeg then none else
        if (L_4.1.2 9 x3_3.toNatClampNeg) ≤ x2_2 then
          fX4_valueAt_l1 N L_4 x2_2 n (x3_3 + (1 : Int32))
        else
          some (Sum.inr x3_3)
def fX4_valueAt_l2 (N : Nat) (L_21 : zLS) (x2_19 : Int32) : Nat → Int32 → Option (Sum Unit Int32)
  | 0, _ => none
  | n + 1, x3_20 =>
    if (L_21.1.1 2) ≤ x3_20 then
      some (Sum.inl ())
    else
      if (8 : Int32) ≤ x3_20 then
        some (Sum.inl ())
      else
        if x3_20 < 0 ∨ 8 ≤ x3_20.toNatClampNeg then none else
        if (L_21.1.2 9 x3_20.toNatClampNeg) ≤ x2_19 then
          fX4_valueAt_l2 N L_21 x2_19 n (x3_20 + (1 : Int32))
        else
          some (Sum.inr x3_20)
def fX4_valueAt (N : Nat) (L : zLS) (x1 : Int32) : Option Int32 :=
  if (L.1.1 0) = (1 : Int32) then
    (fX4_valueAt_l2 N L (if ((L.1.1 1) - x1) < (0 : Int32) then (0 : Int32) else ((L.1.1 1) - x1)) N (0 : Int32)).bind (Sum.elim (fun _ =>
      if (L.1.1 2) ≤ 0 then
        some (0 : Int32)
      else
        if (8 : Int32) < (L.1.1 2) then
          some (0 : Int32)
        else
          if ((L.1.1 2) - (1 : Int32)) < 0 ∨ 8 ≤ ((L.1.1 2) - (1 : Int32)).toNatClampNeg then none else
          some (L.1.2 10 (((L.1.1 2) - (1 : Int32)).toNatClampNeg)))
    (fun u_35 =>
      if u_35 = 0 then
        some (L.1.2 10 ((0 : Int32).toNatClampNeg))
      else
        (fX4_valueBetween N L (u_35 - (1 : Int32)) u_35 (if ((L.1.1 1) - x1) < (0 : Int32) then (0 : Int32) else ((L.1.1 1) - x1))).bind fun u_34 =>
        some u_34))
  else
    (fX4_valueAt_l1 N L x1 N (0 : Int32)).bind (Sum.elim (fun _ =>
      if (L.1.1 2) ≤ 0 then
        some (0 : Int32)
      else
        if (8 : Int32) < (L.1.1 2) then
          some (0 : Int32)
        else
          if ((L.1.1 2) - (1 : Int32)) < 0 ∨ 8 ≤ ((L.1.1 2) - (1 : Int32)).toNatClampNeg then none else
          some (L.1.2 10 (((L.1.1 2) - (1 : Int32)).toNatClampNeg)))
    (fun u_18 =>
      if u_18 = 0 then
        some (L.1.2 10 ((0 : Int32).toNatClampNeg))
      else
        (fX4_valueBetween N L (u_18 - (1 : Int32)) u_18 x1).bind fun u_17 =>
        some u_17))
set_option maxHeartbeats 4000000 in
set_option maxRecDepth 100000 in
theorem qX4_valueAt (l : Launch) (D : va_G) (E : zE) (KL : List Nat) (kc : Nat → zKC) (on : zNS) (rw rd ft tr : zOS) (la : Nat → zLS) (mo : zMS) (j : Nat) (hj : j < 5) (L : zLS) (N sz : Nat) (x1 : Int32) (out : Int32) (hF : fX4_valueAt N L x1 = some out) : zCi l yX4_valueAt zwX4_valueAt ({ frames := 1, cells := 0, slots := 0, locals := 24 }) [.ref (E.1 (13 + 11 * j)), .int x1] D E sz (zW E KL kc on rw rd ft tr (va_up la j L) mo) (zW E KL kc on rw rd ft tr (va_up la j L) mo) out 0 0 := by
  refine zent_i (cc := cX4_valueAt) (nL := 4) (by decide) rfl (Nat.le_of_ble_eq_true rfl) ?_
  intro p e s m args below meth c Q A hx hb hml hown hts hA hK hP hD hS hE ls hl hend
  have hown : s.vm.findClass RX4 = some m.cls := hown
  have hl : lv_has ls 4 [(0, .ref (E.1 (13 + 11 * j))), (1, .int x1)] := hl
  rw [fX4_valueAt] at hF
  refine lv_aload_n hx hb dX4_valueAt_0 rfl (lv_at hl 0 rfl) ?_
  refine va_get (D := D) (ci := 3) (v := .int (L.1.1 0)) (C := RX4) (T := TX4) (N := 19) hx hb hts (zi iX4) hown hK hP (13 + 11 * j) (zg_L _ _ _ _ _ _ _ _ _ _ hj _) rfl 0 (by decide) (zh hts k0_99) (fun _ h9 => h9) rfl dX4_valueAt_1 ?_
  refine lv_iconst (v := 1) hx hb dX4_valueAt_4 (by decide) ?_
  refine lv_icmp_ne (tgt := 21) hx hb dX4_valueAt_5 (by decide) (fun c_1 => ?_) (fun c_1 => ?_)
  · have hF := zif c_1 hF
    refine lv_iload_n hx hb dX4_valueAt_21 rfl (lv_at hl 1 rfl) ?_
    refine lv_istore_n (lv' := [(2, .int x1), (0, .ref (E.1 (13 + 11 * j))), (1, .int x1)]) hx hb dX4_valueAt_22 rfl hl (by decide) rfl (fun ls hl => ?_)
    refine lv_iconst (v := 0) hx hb dX4_valueAt_23 (by decide) ?_
    refine lv_istore_n (lv' := [(3, .int (0 : Int32)), (2, .int x1), (0, .ref (E.1 (13 + 11 * j))), (1, .int x1)]) hx hb dX4_valueAt_24 rfl hl (by decide) rfl (fun ls hl => ?_)
    obtain ⟨o_9, ho_9, hF⟩ := zbd hF
    have kx_1_0 : (Sum.inl ()) = o_9 → ∀ (H : Heap) (locs : List Loc) (ls : Array Slot), va_P D vwCl (zW E KL kc on rw rd ft tr (va_up la j L) mo) H → va_D A (zW E KL kc on rw rd ft tr (va_up la j L) mo) → va_S A s.heap H locs → lv_has ls 4 [(0, .ref (E.1 (13 + 11 * j)))] → W p l e ({ frames := 1, cells := 0, slots := 0, locals := 24 } : Room) s m args below meth c H locs 0 0 Q (F0 m 78 ls []) := by
      intro ho H locs ls hP hD hS hl
      subst ho
      have hF := zinl hF
      refine lv_aload_n hx hb dX4_valueAt_78 rfl (lv_at hl 0 rfl) ?_
      refine va_get (D := D) (ci := 3) (v := .int (L.1.1 2)) (C := RX4) (T := TX4) (N := 19) hx hb hts (zi iX4) hown hK hP (13 + 11 * j) (zg_L _ _ _ _ _ _ _ _ _ _ hj _) rfl 2 (by decide) (zh hts k0_106) (fun _ h9 => h9) rfl dX4_valueAt_79 ?_
      refine lv_if_le (tgt := 108) hx hb dX4_valueAt_82 (by decide) (fun c_10 => ?_) (fun c_10 => ?_)
      · have hF := zit c_10 hF
        refine lv_iconst (v := 0) hx hb dX4_valueAt_108 (by decide) ?_
        obtain rfl := Option.some.inj hF
        exact hend _ _ _ _ hP hD hS dX4_valueAt_109
      · have hF := zif c_10 hF
        refine lv_aload_n hx hb dX4_valueAt_85 rfl (lv_at hl 0 rfl) ?_
        refine va_get (D := D) (ci := 3) (v := .int (L.1.1 2)) (C := RX4) (T := TX4) (N := 19) hx hb hts (zi iX4) hown hK hP (13 + 11 * j) (zg_L _ _ _ _ _ _ _ _ _ _ hj _) rfl 2 (by decide) (zh hts k0_106) (fun _ h9 => h9) rfl dX4_valueAt_86 ?_
        refine lv_bipush (v := 8) hx hb dX4_valueAt_89 (by decide) ?_
        refine lv_icmp_gt (tgt := 108) hx hb dX4_valueAt_91 (by decide) (fun c_11 => ?_) (fun c_11 => ?_)
        · have hF := zit c_11 hF
          refine lv_iconst (v := 0) hx hb dX4_valueAt_108 (by decide) ?_
          obtain rfl := Option.some.inj hF
          exact hend _ _ _ _ hP hD hS dX4_valueAt_109
        · have hF := zif c_11 hF
          refine lv_aload_n hx hb dX4_valueAt_94 rfl (lv_at hl 0 rfl) ?_
          refine va_get (D := D) (ci := 3) (v := .ref (E.1 (13 + 11 * j + 2))) (C := RX4) (T := TX4) (N := 19) hx hb hts (zi iX4) hown hK hP (13 + 11 * j) (zg_L _ _ _ _ _ _ _ _ _ _ hj _) rfl 10 (by decide) (zh hts k0_129) (fun _ h9 => h9) rfl dX4_valueAt_95 ?_
          refine lv_aload_n hx hb dX4_valueAt_98 rfl (lv_at hl 0 rfl) ?_
          refine va_get (D := D) (ci := 3) (v := .int (L.1.1 2)) (C := RX4) (T := TX4) (N := 19) hx hb hts (zi iX4) hown hK hP (13 + 11 * j) (zg_L _ _ _ _ _ _ _ _ _ _ hj _) rfl 2 (by decide) (zh hts k0_106) (fun _ h9 => h9) rfl dX4_valueAt_99 ?_
          refine lv_iconst (v := 1) hx hb dX4_valueAt_102 (by decide) ?_
          refine lv_isub hx hb dX4_valueAt_103 ?_
          obtain ⟨g_12, hF⟩ := zgd hF
          refine ziald (v := L.1.2 10 (((L.1.1 2) - (1 : Int32)).toNatClampNeg)) hx hb hK hP (13 + 11 * j + 2) 1 (zg_L_10 _ _ _ _ _ _ _ _ _ _ hj _) rfl g_12 rfl dX4_valueAt_104 ?_
          refine lv_goto (tgt := 109) hx hb dX4_valueAt_105 (by decide) ?_
          obtain rfl := Option.some.inj hF
          exact hend _ _ _ _ hP hD hS dX4_valueAt_109
    have kx_1_1 : ∀ (x3_14 : Int32), (Sum.inr x3_14) = o_9 → ∀ (H : Heap) (locs : List Loc) (ls : Array Slot), va_P D vwCl (zW E KL kc on rw rd ft tr (va_up la j L) mo) H → va_D A (zW E KL kc on rw rd ft tr (va_up la j L) mo) → va_S A s.heap H locs → lv_has ls 4 [(0, .ref (E.1 (13 + 11 * j))), (2, .int x1), (3, .int x3_14)] → W p l e ({ frames := 1, cells := 0, slots := 0, locals := 24 } : Room) s m args below meth c H locs 0 0 Q (F0 m 49 ls []) := by
      intro x3_14 ho H locs ls hP hD hS hl
      subst ho
      have hF := zinr hF
      refine lv_iload_n hx hb dX4_valueAt_49 rfl (lv_at hl 2 rfl) ?_
      refine lv_if_ne (tgt := 62) hx hb dX4_valueAt_50 (by decide) (fun c_15 => ?_) (fun c_15 => ?_)
      · have hF := zif c_15 hF
        refine lv_aload_n hx hb dX4_valueAt_62 rfl (lv_at hl 0 rfl) ?_
        refine lv_iload_n hx hb dX4_valueAt_63 rfl (lv_at hl 2 rfl) ?_
        refine lv_iconst (v := 1) hx hb dX4_valueAt_64 (by decide) ?_
        refine lv_isub hx hb dX4_valueAt_65 ?_
        refine lv_iload_n hx hb dX4_valueAt_66 rfl (lv_at hl 2 rfl) ?_
        refine lv_iload_n hx hb dX4_valueAt_67 rfl (lv_at hl 1 rfl) ?_
        have hrv_16 := (va_recv hK hP (ci := 3) (q0 := 13 + 11 * j) rfl (zg_L _ _ _ _ _ _ _ _ _ _ hj _))
        obtain ⟨u_17, hu_17, hF⟩ := zbd hF
        refine zcall_i (va_runV (As := [.int (x3_14 - (1 : Int32)), .int x3_14, .int x1]) (rest := []) ⟨hx, hb, hml, hown, hts⟩ (qX4_valueBetween l D E KL kc on rw rd ft tr la mo j hj L N _ (x3_14 - (1 : Int32)) x3_14 x1 _ hu_17) (cwV 3 hts (zgV k2_112 k2_114 kp1_2 k0_6 k2_115) rfl rfl rfl (by decide +kernel) ⟨Nat.le_of_ble_eq_true rfl, Nat.le_of_ble_eq_true rfl⟩) (zpv hE hS hA hK hP hD hrv_16) rfl rfl hl.1 rfl (lv_room (Nat.le_of_ble_eq_true rfl)) dX4_valueAt_68 ⟨Nat.zero_le _, Nat.zero_le _⟩) hD hS hA (fun H locs hP hD hS => ?_)
        obtain rfl := Option.some.inj hF
        exact hend _ _ _ _ hP hD hS dX4_valueAt_71
      · have hF := zit c_15 hF
        refine lv_aload_n hx hb dX4_valueAt_53 rfl (lv_at hl 0 rfl) ?_
        refine va_get (D := D) (ci := 3) (v := .ref (E.1 (13 + 11 * j + 2))) (C := RX4) (T := TX4) (N := 19) hx hb hts (zi iX4) hown hK hP (13 + 11 * j) (zg_L _ _ _ _ _ _ _ _ _ _ hj _) rfl 10 (by decide) (zh hts k0_129) (fun _ h9 => h9) rfl dX4_valueAt_54 ?_
        refine lv_iconst (v := 0) hx hb dX4_valueAt_57 (by decide) ?_
        refine ziald (v := L.1.2 10 ((0 : Int32).toNatClampNeg)) hx hb hK hP (13 + 11 * j + 2) 1 (zg_L_10 _ _ _ _ _ _ _ _ _ _ hj _) rfl (show vp_in 0 8 from by unfold vp_in; decide) rfl dX4_valueAt_58 ?_
        refine lv_goto (tgt := 71) hx hb dX4_valueAt_59 (by decide) ?_
        obtain rfl := Option.some.inj hF
        exact hend _ _ _ _ hP hD hS dX4_valueAt_71
    have lp_1 : ∀ (L_4 : zLS) (x2_2 : Int32) (n : Nat) (x3_3 : Int32) (o : (Sum Unit Int32)), fX4_valueAt_l1 N L_4 x2_2 n x3_3 = some o → ((Sum.inl ()) = o → ∀ (H : Heap) (locs : List Loc) (ls : Array Slot), va_P D vwCl (zW E KL kc on rw rd ft tr (va_up la j L_4) mo) H → va_D A (zW E KL kc on rw rd ft tr (va_up la j L_4) mo) → va_S A s.heap H locs → lv_has ls 4 [(0, .ref (E.1 (13 + 11 * j)))] → W p l e ({ frames := 1, cells := 0, slots := 0, locals := 24 } : Room) s m args below meth c H locs 0 0 Q (F0 m 78 ls [])) → (∀ (x3_14 : Int32), (Sum.inr x3_14) = o → ∀ (H : Heap) (locs : List Loc) (ls : Array Slot), va_P D vwCl (zW E KL kc on rw rd ft tr (va_up la j L_4) mo) H → va_D A (zW E KL kc on rw rd ft tr (va_up la j L_4) mo) → va_S A s.heap H locs → lv_has ls 4 [(0, .ref (E.1 (13 + 11 * j))), (2, .int x2_2), (3, .int x3_14)] → W p l e ({ frames := 1, cells := 0, slots := 0, locals := 24 } : Room) s m args below meth c H locs 0 0 Q (F0 m 49 ls [])) → ∀ (H : Heap) (locs : List Loc) (ls : Array Slot), va_P D vwCl (zW E KL kc on rw rd ft tr (va_up la j L_4) mo) H → va_D A (zW E KL kc on rw rd ft tr (va_up la j L_4) mo) → va_S A s.heap H locs → lv_has ls 4 [(0, .ref (E.1 (13 + 11 * j))), (2, .int x2_2), (3, .int x3_3)] → W p l e ({ frames := 1, cells := 0, slots := 0, locals := 24 } : Room) s m args below meth c H locs 0 0 Q (F0 m 25 ls []) := by
      intro L_4 x2_2 n
      induction n with
      | zero =>
        intro x3_3 o hF
        exact znone hF
      | succ n ih =>
        intro x3_3 o hF kx_1_0 kx_1_1 H locs ls hP hD hS hl
        rw [fX4_valueAt_l1] at hF
        refine lv_iload_n hx hb dX4_valueAt_25 rfl (lv_at hl 2 rfl) ?_
        refine lv_aload_n hx hb dX4_valueAt_26 rfl (lv_at hl 0 rfl) ?_
        refine va_get (D := D) (ci := 3) (v := .int (L_4.1.1 2)) (C := RX4) (T := TX4) (N := 19) hx hb hts (zi iX4) hown hK hP (13 + 11 * j) (zg_L _ _ _ _ _ _ _ _ _ _ hj _) rfl 2 (by decide) (zh hts k0_106) (fun _ h9 => h9) rfl dX4_valueAt_27 ?_
        refine lv_icmp_ge (tgt := 78) hx hb dX4_valueAt_30 (by decide) (fun c_5 => ?_) (fun c_5 => ?_)
        · have hF := zit c_5 hF
          exact kx_1_0 (Option.some.inj hF) _ _ _ hP hD hS (lv_sub hl [0] rfl)
        · have hF := zif c_5 hF
          refine lv_iload_n hx hb dX4_valueAt_33 rfl (lv_at hl 2 rfl) ?_
          refine lv_bipush (v := 8) hx hb dX4_valueAt_34 (by decide) ?_
          refine lv_icmp_ge (tgt := 78) hx hb dX4_valueAt_36 (by decide) (fun c_6 => ?_) (fun c_6 => ?_)
          · have hF := zit c_6 hF
            exact kx_1_0 (Option.some.inj hF) _ _ _ hP hD hS (lv_sub hl [0] rfl)
          · have hF := zif c_6 hF
            refine lv_iload_n hx hb dX4_valueAt_39 rfl (lv_at hl 1 rfl) ?_
            refine lv_aload_n hx hb dX4_valueAt_40 rfl (lv_at hl 0 rfl) ?_
            refine va_get (D := D) (ci := 3) (v := .ref (E.1 (13 + 11 * j + 1))) (C := RX4) (T := TX4) (N := 19) hx hb hts (zi iX4) hown hK hP (13 + 11 * j) (zg_L _ _ _ _ _ _ _ _ _ _ hj _) rfl 9 (by decide) (zh hts k0_128) (fun _ h9 => h9) rfl dX4_valueAt_41 ?_
            refine lv_iload_n hx hb dX4_valueAt_44 rfl (lv_at hl 2 rfl) ?_
            obtain ⟨g_7, hF⟩ := zgd hF
            refine ziald (v := L_4.1.2 9 x3_3.toNatClampNeg) hx hb hK hP (13 + 11 * j + 1) 1 (zg_L_9 _ _ _ _ _ _ _ _ _ _ hj _) rfl g_7 rfl dX4_valueAt_45 ?_
            refine lv_icmp_ge (tgt := 72) hx hb dX4_valueAt_46 (by decide) (fun c_8 => ?_) (fun c_8 => ?_)
            · have hF := zit c_8 hF
              refine lv_iinc (v := x3_3 + (1 : Int32)) (lv' := [(3, .int (x3_3 + (1 : Int32))), (0, .ref (E.1 (13 + 11 * j))), (2, .int x2_2)]) hx hb dX4_valueAt_72 hl (k := 2) rfl rfl (by decide) rfl (fun ls hl => ?_)
              refine lv_goto (tgt := 25) hx hb dX4_valueAt_75 (by decide) ?_
              exact ih (x3_3 + (1 : Int32)) _ hF kx_1_0 kx_1_1 _ _ _ hP hD hS (lv_sub hl [1, 2, 0] rfl)
            · have hF := zif c_8 hF
              exact kx_1_1 x3_3 (Option.some.inj hF) _ _ _ hP hD hS (lv_sub hl [0, 1, 2] rfl)
    exact lp_1 L x1 N (0 : Int32) _ ho_9 kx_1_0 kx_1_1 _ _ _ hP hD hS (lv_sub hl [2, 1, 0] rfl)
  · have hF := zit c_1 hF
    refine lv_aload_n hx hb dX4_valueAt_8 rfl (lv_at hl 0 rfl) ?_
    refine va_get (D := D) (ci := 3) (v := .int (L.1.1 1)) (C := RX4) (T := TX4) (N := 19) hx hb hts (zi iX4) hown hK hP (13 + 11 * j) (zg_L _ _ _ _ _ _ _ _ _ _ hj _) rfl 1 (by decide) (zh hts k0_104) (fun _ h9 => h9) rfl dX4_valueAt_9 ?_
    refine lv_iload_n hx hb dX4_valueAt_12 rfl (lv_at hl 1 rfl) ?_
    refine lv_isub hx hb dX4_valueAt_13 ?_
    refine lv_iconst (v := 0) hx hb dX4_valueAt_14 (by decide) ?_
    refine va_mmax hx hb (hml.trans hl.1.symm) (own := RX4) hown (zh hts k2_109) (zh hts k2_110) (zh hts k0_10) (zh hts k2_111) (Nat.le_of_ble_eq_true rfl) (Nat.le_of_ble_eq_true rfl) (Nat.zero_le _) (Nat.zero_le _) dX4_valueAt_15 ?_
    refine lv_goto (tgt := 22) hx hb dX4_valueAt_18 (by decide) ?_
    refine lv_istore_n (lv' := [(2, .int (if ((L.1.1 1) - x1) < (0 : Int32) then (0 : Int32) else ((L.1.1 1) - x1))), (0, .ref (E.1 (13 + 11 * j))), (1, .int x1)]) hx hb dX4_valueAt_22 rfl hl (by decide) rfl (fun ls hl => ?_)
    refine lv_iconst (v := 0) hx hb dX4_valueAt_23 (by decide) ?_
    refine lv_istore_n (lv' := [(3, .int (0 : Int32)), (2, .int (if ((L.1.1 1) - x1) < (0 : Int32) then (0 : Int32) else ((L.1.1 1) - x1))), (0, .ref (E.1 (13 + 11 * j))), (1, .int x1)]) hx hb dX4_valueAt_24 rfl hl (by decide) rfl (fun ls hl => ?_)
    obtain ⟨o_26, ho_26, hF⟩ := zbd hF
    have kx_2_0 : (Sum.inl ()) = o_26 → ∀ (H : Heap) (locs : List Loc) (ls : Array Slot), va_P D vwCl (zW E KL kc on rw rd ft tr (va_up la j L) mo) H → va_D A (zW E KL kc on rw rd ft tr (va_up la j L) mo) → va_S A s.heap H locs → lv_has ls 4 [(0, .ref (E.1 (13 + 11 * j)))] → W p l e ({ frames := 1, cells := 0, slots := 0, locals := 24 } : Room) s m args below meth c H locs 0 0 Q (F0 m 78 ls []) := by
      intro ho H locs ls hP hD hS hl
      subst ho
      have hF := zinl hF
      refine lv_aload_n hx hb dX4_valueAt_78 rfl (lv_at hl 0 rfl) ?_
      refine va_get (D := D) (ci := 3) (v := .int (L.1.1 2)) (C := RX4) (T := TX4) (N := 19) hx hb hts (zi iX4) hown hK hP (13 + 11 * j) (zg_L _ _ _ _ _ _ _ _ _ _ hj _) rfl 2 (by decide) (zh hts k0_106) (fun _ h9 => h9) rfl dX4_valueAt_79 ?_
      refine lv_if_le (tgt := 108) hx hb dX4_valueAt_82 (by decide) (fun c_27 => ?_) (fun c_27 => ?_)
      · have hF := zit c_27 hF
        refine lv_iconst (v := 0) hx hb dX4_valueAt_108 (by decide) ?_
        obtain rfl := Option.some.inj hF
        exact hend _ _ _ _ hP hD hS dX4_valueAt_109
      · have hF := zif c_27 hF
        refine lv_aload_n hx hb dX4_valueAt_85 rfl (lv_at hl 0 rfl) ?_
        refine va_get (D := D) (ci := 3) (v := .int (L.1.1 2)) (C := RX4) (T := TX4) (N := 19) hx hb hts (zi iX4) hown hK hP (13 + 11 * j) (zg_L _ _ _ _ _ _ _ _ _ _ hj _) rfl 2 (by decide) (zh hts k0_106) (fun _ h9 => h9) rfl dX4_valueAt_86 ?_
        refine lv_bipush (v := 8) hx hb dX4_valueAt_89 (by decide) ?_
        refine lv_icmp_gt (tgt := 108) hx hb dX4_valueAt_91 (by decide) (fun c_28 => ?_) (fun c_28 => ?_)
        · have hF := zit c_28 hF
          refine lv_iconst (v := 0) hx hb dX4_valueAt_108 (by decide) ?_
          obtain rfl := Option.some.inj hF
          exact hend _ _ _ _ hP hD hS dX4_valueAt_109
        · have hF := zif c_28 hF
          refine lv_aload_n hx hb dX4_valueAt_94 rfl (lv_at hl 0 rfl) ?_
          refine va_get (D := D) (ci := 3) (v := .ref (E.1 (13 + 11 * j + 2))) (C := RX4) (T := TX4) (N := 19) hx hb hts (zi iX4) hown hK hP (13 + 11 * j) (zg_L _ _ _ _ _ _ _ _ _ _ hj _) rfl 10 (by decide) (zh hts k0_129) (fun _ h9 => h9) rfl dX4_valueAt_95 ?_
          refine lv_aload_n hx hb dX4_valueAt_98 rfl (lv_at hl 0 rfl) ?_
          refine va_get (D := D) (ci := 3) (v := .int (L.1.1 2)) (C := RX4) (T := TX4) (N := 19) hx hb hts (zi iX4) hown hK hP (13 + 11 * j) (zg_L _ _ _ _ _ _ _ _ _ _ hj _) rfl 2 (by decide) (zh hts k0_106) (fun _ h9 => h9) rfl dX4_valueAt_99 ?_
          refine lv_iconst (v := 1) hx hb dX4_valueAt_102 (by decide) ?_
          refine lv_isub hx hb dX4_valueAt_103 ?_
          obtain ⟨g_29, hF⟩ := zgd hF
          refine ziald (v := L.1.2 10 (((L.1.1 2) - (1 : Int32)).toNatClampNeg)) hx hb hK hP (13 + 11 * j + 2) 1 (zg_L_10 _ _ _ _ _ _ _ _ _ _ hj _) rfl g_29 rfl dX4_valueAt_104 ?_
          refine lv_goto (tgt := 109) hx hb dX4_valueAt_105 (by decide) ?_
          obtain rfl := Option.some.inj hF
          exact hend _ _ _ _ hP hD hS dX4_valueAt_109
    have kx_2_1 : ∀ (x3_31 : Int32), (Sum.inr x3_31) = o_26 → ∀ (H : Heap) (locs : List Loc) (ls : Array Slot), va_P D vwCl (zW E KL kc on rw rd ft tr (va_up la j L) mo) H → va_D A (zW E KL kc on rw rd ft tr (va_up la j L) mo) → va_S A s.heap H locs → lv_has ls 4 [(0, .ref (E.1 (13 + 11 * j))), (2, .int (if ((L.1.1 1) - x1) < (0 : Int32) then (0 : Int32) else ((L.1.1 1) - x1))), (3, .int x3_31)] → W p l e ({ frames := 1, cells := 0, slots := 0, locals := 24 } : Room) s m args below meth c H locs 0 0 Q (F0 m 49 ls []) := by
      intro x3_31 ho H locs ls hP hD hS hl
      subst ho
      have hF := zinr hF
      refine lv_iload_n hx hb dX4_valueAt_49 rfl (lv_at hl 2 rfl) ?_
      refine lv_if_ne (tgt := 62) hx hb dX4_valueAt_50 (by decide) (fun c_32 => ?_) (fun c_32 => ?_)
      · have hF := zif c_32 hF
        refine lv_aload_n hx hb dX4_valueAt_62 rfl (lv_at hl 0 rfl) ?_
        refine lv_iload_n hx hb dX4_valueAt_63 rfl (lv_at hl 2 rfl) ?_
        refine lv_iconst (v := 1) hx hb dX4_valueAt_64 (by decide) ?_
        refine lv_isub hx hb dX4_valueAt_65 ?_
        refine lv_iload_n hx hb dX4_valueAt_66 rfl (lv_at hl 2 rfl) ?_
        refine lv_iload_n hx hb dX4_valueAt_67 rfl (lv_at hl 1 rfl) ?_
        have hrv_33 := (va_recv hK hP (ci := 3) (q0 := 13 + 11 * j) rfl (zg_L _ _ _ _ _ _ _ _ _ _ hj _))
        obtain ⟨u_34, hu_34, hF⟩ := zbd hF
        refine zcall_i (va_runV (As := [.int (x3_31 - (1 : Int32)), .int x3_31, .int (if ((L.1.1 1) - x1) < (0 : Int32) then (0 : Int32) else ((L.1.1 1) - x1))]) (rest := []) ⟨hx, hb, hml, hown, hts⟩ (qX4_valueBetween l D E KL kc on rw rd ft tr la mo j hj L N _ (x3_31 - (1 : Int32)) x3_31 (if ((L.1.1 1) - x1) < (0 : Int32) then (0 : Int32) else ((L.1.1 1) - x1)) _ hu_34) (cwV 3 hts (zgV k2_112 k2_114 kp1_2 k0_6 k2_115) rfl rfl rfl (by decide +kernel) ⟨Nat.le_of_ble_eq_true rfl, Nat.le_of_ble_eq_true rfl⟩) (zpv hE hS hA hK hP hD hrv_33) rfl rfl hl.1 rfl (lv_room (Nat.le_of_ble_eq_true rfl)) dX4_valueAt_68 ⟨Nat.zero_le _, Nat.zero_le _⟩) hD hS hA (fun H locs hP hD hS => ?_)
        obtain rfl := Option.some.inj hF
        exact hend _ _ _ _ hP hD hS dX4_valueAt_71
      · have hF := zit c_32 hF
        refine lv_aload_n hx hb dX4_valueAt_53 rfl (lv_at hl 0 rfl) ?_
        refine va_get (D := D) (ci := 3) (v := .ref (E.1 (13 + 11 * j + 2))) (C := RX4) (T := TX4) (N := 19) hx hb hts (zi iX4) hown hK hP (13 + 11 * j) (zg_L _ _ _ _ _ _ _ _ _ _ hj _) rfl 10 (by decide) (zh hts k0_129) (fun _ h9 => h9) rfl dX4_valueAt_54 ?_
        refine lv_iconst (v := 0) hx hb dX4_valueAt_57 (by decide) ?_
        refine ziald (v := L.1.2 10 ((0 : Int32).toNatClampNeg)) hx hb hK hP (13 + 11 * j + 2) 1 (zg_L_10 _ _ _ _ _ _ _ _ _ _ hj _) rfl (show vp_in 0 8 from by unfold vp_in; decide) rfl dX4_valueAt_58 ?_
        refine lv_goto (tgt := 71) hx hb dX4_valueAt_59 (by decide) ?_
        obtain rfl := Option.some.inj hF
        exact hend _ _ _ _ hP hD hS dX4_valueAt_71
    have lp_2 : ∀ (L_21 : zLS) (x2_19 : Int32) (n : Nat) (x3_20 : Int32) (o : (Sum Unit Int32)), fX4_valueAt_l2 N L_21 x2_19 n x3_20 = some o → ((Sum.inl ()) = o → ∀ (H : Heap) (locs : List Loc) (ls : Array Slot), va_P D vwCl (zW E KL kc on rw rd ft tr (va_up la j L_21) mo) H → va_D A (zW E KL kc on rw rd ft tr (va_up la j L_21) mo) → va_S A s.heap H locs → lv_has ls 4 [(0, .ref (E.1 (13 + 11 * j)))] → W p l e ({ frames := 1, cells := 0, slots := 0, locals := 24 } : Room) s m args below meth c H locs 0 0 Q (F0 m 78 ls [])) → (∀ (x3_31 : Int32), (Sum.inr x3_31) = o → ∀ (H : Heap) (locs : List Loc) (ls : Array Slot), va_P D vwCl (zW E KL kc on rw rd ft tr (va_up la j L_21) mo) H → va_D A (zW E KL kc on rw rd ft tr (va_up la j L_21) mo) → va_S A s.heap H locs → lv_has ls 4 [(0, .ref (E.1 (13 + 11 * j))), (2, .int x2_19), (3, .int x3_31)] → W p l e ({ frames := 1, cells := 0, slots := 0, locals := 24 } : Room) s m args below meth c H locs 0 0 Q (F0 m 49 ls [])) → ∀ (H : Heap) (locs : List Loc) (ls : Array Slot), va_P D vwCl (zW E KL kc on rw rd ft tr (va_up la j L_21) mo) H → va_D A (zW E KL kc on rw rd ft tr (va_up la j L_21) mo) → va_S A s.heap H locs → lv_has ls 4 [(0, .ref (E.1 (13 + 11 * j))), (2, .int x2_19), (3, .int x3_20)] → W p l e ({ frames := 1, cells := 0, slots := 0, locals := 24 } : Room) s m args below meth c H locs 0 0 Q (F0 m 25 ls []) := by
      intro L_21 x2_19 n
      induction n with
      | zero =>
        intro x3_20 o hF
        exact znone hF
      | succ n ih =>
        intro x3_20 o hF kx_2_0 kx_2_1 H locs ls hP hD hS hl
        rw [fX4_valueAt_l2] at hF
        refine lv_iload_n hx hb dX4_valueAt_25 rfl (lv_at hl 2 rfl) ?_
        refine lv_aload_n hx hb dX4_valueAt_26 rfl (lv_at hl 0 rfl) ?_
        refine va_get (D := D) (ci := 3) (v := .int (L_21.1.1 2)) (C := RX4) (T := TX4) (N := 19) hx hb hts (zi iX4) hown hK hP (13 + 11 * j) (zg_L _ _ _ _ _ _ _ _ _ _ hj _) rfl 2 (by decide) (zh hts k0_106) (fun _ h9 => h9) rfl dX4_valueAt_27 ?_
        refine lv_icmp_ge (tgt := 78) hx hb dX4_valueAt_30 (by decide) (fun c_22 => ?_) (fun c_22 => ?_)
        · have hF := zit c_22 hF
          exact kx_2_0 (Option.some.inj hF) _ _ _ hP hD hS (lv_sub hl [0] rfl)
        · have hF := zif c_22 hF
          refine lv_iload_n hx hb dX4_valueAt_33 rfl (lv_at hl 2 rfl) ?_
          refine lv_bipush (v := 8) hx hb dX4_valueAt_34 (by decide) ?_
          refine lv_icmp_ge (tgt := 78) hx hb dX4_valueAt_36 (by decide) (fun c_23 => ?_) (fun c_23 => ?_)
          · have hF := zit c_23 hF
            exact kx_2_0 (Option.some.inj hF) _ _ _ hP hD hS (lv_sub hl [0] rfl)
          · have hF := zif c_23 hF
            refine lv_iload_n hx hb dX4_valueAt_39 rfl (lv_at hl 1 rfl) ?_
            refine lv_aload_n hx hb dX4_valueAt_40 rfl (lv_at hl 0 rfl) ?_
            refine va_get (D := D) (ci := 3) (v := .ref (E.1 (13 + 11 * j + 1))) (C := RX4) (T := TX4) (N := 19) hx hb hts (zi iX4) hown hK hP (13 + 11 * j) (zg_L _ _ _ _ _ _ _ _ _ _ hj _) rfl 9 (by decide) (zh hts k0_128) (fun _ h9 => h9) rfl dX4_valueAt_41 ?_
            refine lv_iload_n hx hb dX4_valueAt_44 rfl (lv_at hl 2 rfl) ?_
            obtain ⟨g_24, hF⟩ := zgd hF
            refine ziald (v := L_21.1.2 9 x3_20.toNatClampNeg) hx hb hK hP (13 + 11 * j + 1) 1 (zg_L_9 _ _ _ _ _ _ _ _ _ _ hj _) rfl g_24 rfl dX4_valueAt_45 ?_
            refine lv_icmp_ge (tgt := 72) hx hb dX4_valueAt_46 (by decide) (fun c_25 => ?_) (fun c_25 => ?_)
            · have hF := zit c_25 hF
              refine lv_iinc (v := x3_20 + (1 : Int32)) (lv' := [(3, .int (x3_20 + (1 : Int32))), (0, .ref (E.1 (13 + 11 * j))), (2, .int x2_19)]) hx hb dX4_valueAt_72 hl (k := 2) rfl rfl (by decide) rfl (fun ls hl => ?_)
              refine lv_goto (tgt := 25) hx hb dX4_valueAt_75 (by decide) ?_
              exact ih (x3_20 + (1 : Int32)) _ hF kx_2_0 kx_2_1 _ _ _ hP hD hS (lv_sub hl [1, 2, 0] rfl)
            · have hF := zif c_25 hF
              exact kx_2_1 x3_20 (Option.some.inj hF) _ _ _ hP hD hS (lv_sub hl [0, 1, 2] rfl)
    exact lp_2 L (if ((L.1.1 1) - x1) < (0 : Int32) then (0 : Int32) else ((L.1.1 1) - x1)) N (0 : Int32) _ ho_26 kx_2_0 kx_2_1 _ _ _ hP hD hS (lv_sub hl [2, 1, 0] rfl)
def fX4_worthIn (N : Nat) (L : zLS) (x1 : Int32) (x2 : Int32) : Option Int32 :=
  if x2 ≤ (6 : Int32) then
    (fX4_valueAt N L x1).bind fun u_3 =>
    if (if x2 < (1 : Int32) then (1 : Int32) else x2) = 0 then none else
    some (u_3 / (if x2 < (1 : Int32) then (1 : Int32) else x2))
  else
    some (0 : Int32)
set_option maxHeartbeats 4000000 in
set_option maxRecDepth 100000 in
theorem qX4_worthIn (l : Launch) (D : va_G) (E : zE) (KL : List Nat) (kc : Nat → zKC) (on : zNS) (rw rd ft tr : zOS) (la : Nat → zLS) (mo : zMS) (j : Nat) (hj : j < 5) (L : zLS) (N sz : Nat) (x1 : Int32) (x2 : Int32) (out : Int32) (hF : fX4_worthIn N L x1 x2 = some out) : zCi l yX4_worthIn zwX4_worthIn ({ frames := 2, cells := 0, slots := 0, locals := 47 }) [.ref (E.1 (13 + 11 * j)), .int x1, .int x2] D E sz (zW E KL kc on rw rd ft tr (va_up la j L) mo) (zW E KL kc on rw rd ft tr (va_up la j L) mo) out 0 0 := by
  refine zent_i (cc := cX4_worthIn) (nL := 3) (by decide) rfl (Nat.le_of_ble_eq_true rfl) ?_
  intro p e s m args below meth c Q A hx hb hml hown hts hA hK hP hD hS hE ls hl hend
  have hown : s.vm.findClass RX4 = some m.cls := hown
  have hl : lv_has ls 3 [(0, .ref (E.1 (13 + 11 * j))), (1, .int x1), (2, .int x2)] := hl
  rw [fX4_worthIn] at hF
  refine lv_iload_n hx hb dX4_worthIn_0 rfl (lv_at hl 2 rfl) ?_
  refine lv_bipush (v := 6) hx hb dX4_worthIn_1 (by decide) ?_
  refine lv_icmp_le (tgt := 10) hx hb dX4_worthIn_3 (by decide) (fun c_1 => ?_) (fun c_1 => ?_)
  · have hF := zit c_1 hF
    refine lv_aload_n hx hb dX4_worthIn_10 rfl (lv_at hl 0 rfl) ?_
    refine lv_iload_n hx hb dX4_worthIn_11 rfl (lv_at hl 1 rfl) ?_
    have hrv_2 := (va_recv hK hP (ci := 3) (q0 := 13 + 11 * j) rfl (zg_L _ _ _ _ _ _ _ _ _ _ hj _))
    obtain ⟨u_3, hu_3, hF⟩ := zbd hF
    refine zcall_i (va_runV (As := [.int x1]) (rest := []) ⟨hx, hb, hml, hown, hts⟩ (qX4_valueAt l D E KL kc on rw rd ft tr la mo j hj L N _ x1 _ hu_3) (cwV 1 hts (zgV k2_193 k2_106 k2_107 k0_6 k2_108) rfl rfl rfl (by decide +kernel) ⟨Nat.le_of_ble_eq_true rfl, Nat.le_of_ble_eq_true rfl⟩) (zpv hE hS hA hK hP hD hrv_2) rfl rfl hl.1 rfl (lv_room (Nat.le_of_ble_eq_true rfl)) dX4_worthIn_12 ⟨Nat.zero_le _, Nat.zero_le _⟩) hD hS hA (fun H locs hP hD hS => ?_)
    refine lv_iload_n hx hb dX4_worthIn_15 rfl (lv_at hl 2 rfl) ?_
    refine lv_iconst (v := 1) hx hb dX4_worthIn_16 (by decide) ?_
    refine va_mmax hx hb (hml.trans hl.1.symm) (own := RX4) hown (zh hts k2_109) (zh hts k2_110) (zh hts k0_10) (zh hts k2_111) (Nat.le_of_ble_eq_true rfl) (Nat.le_of_ble_eq_true rfl) (Nat.zero_le _) (Nat.zero_le _) dX4_worthIn_17 ?_
    obtain ⟨g_4, hF⟩ := zgd hF
    refine lv_idiv hx hb dX4_worthIn_20 g_4 ?_
    obtain rfl := Option.some.inj hF
    exact hend _ _ _ _ hP hD hS dX4_worthIn_21
  · have hF := zif c_1 hF
    refine lv_iconst (v := 0) hx hb dX4_worthIn_6 (by decide) ?_
    refine lv_goto (tgt := 21) hx hb dX4_worthIn_7 (by decide) ?_
    obtain rfl := Option.some.inj hF
    exact hend _ _ _ _ hP hD hS dX4_worthIn_21
def fX4_hadBy (N : Nat) (L : zLS) (x1 : Int32) : Option Int32 :=
  (fX4_keepersWith N L x1).bind fun u_2 =>
  (fX4_knownBy N L x1).bind fun u_4 =>
  some (u_2 + u_4)
set_option maxHeartbeats 4000000 in
set_option maxRecDepth 100000 in
theorem qX4_hadBy (l : Launch) (D : va_G) (E : zE) (KL : List Nat) (kc : Nat → zKC) (on : zNS) (rw rd ft tr : zOS) (la : Nat → zLS) (mo : zMS) (j : Nat) (hj : j < 5) (L : zLS) (N sz : Nat) (x1 : Int32) (out : Int32) (hF : fX4_hadBy N L x1 = some out) : zCi l yX4_hadBy zwX4_hadBy ({ frames := 2, cells := 0, slots := 0, locals := 46 }) [.ref (E.1 (13 + 11 * j)), .int x1] D E sz (zW E KL kc on rw rd ft tr (va_up la j L) mo) (zW E KL kc on rw rd ft tr (va_up la j L) mo) out 0 0 := by
  refine zent_i (cc := cX4_hadBy) (nL := 2) (by decide) rfl (Nat.le_of_ble_eq_true rfl) ?_
  intro p e s m args below meth c Q A hx hb hml hown hts hA hK hP hD hS hE ls hl hend
  have hown : s.vm.findClass RX4 = some m.cls := hown
  have hl : lv_has ls 2 [(0, .ref (E.1 (13 + 11 * j))), (1, .int x1)] := hl
  rw [fX4_hadBy] at hF
  refine lv_aload_n hx hb dX4_hadBy_0 rfl (lv_at hl 0 rfl) ?_
  refine lv_iload_n hx hb dX4_hadBy_1 rfl (lv_at hl 1 rfl) ?_
  have hrv_1 := (va_recv hK hP (ci := 3) (q0 := 13 + 11 * j) rfl (zg_L _ _ _ _ _ _ _ _ _ _ hj _))
  obtain ⟨u_2, hu_2, hF⟩ := zbd hF
  refine zcall_i (va_runV (As := [.int x1]) (rest := []) ⟨hx, hb, hml, hown, hts⟩ (qX4_keepersWith l D E KL kc on rw rd ft tr la mo j hj L N _ x1 _ hu_2) (cwV 1 hts (zgV k2_181 k2_182 k2_183 k0_6 k2_184) rfl rfl rfl (by decide +kernel) ⟨Nat.le_of_ble_eq_true rfl, Nat.le_of_ble_eq_true rfl⟩) (zpv hE hS hA hK hP hD hrv_1) rfl rfl hl.1 rfl (lv_room (Nat.le_of_ble_eq_true rfl)) dX4_hadBy_2 ⟨Nat.zero_le _, Nat.zero_le _⟩) hD hS hA (fun H locs hP hD hS => ?_)
  refine lv_aload_n hx hb dX4_hadBy_5 rfl (lv_at hl 0 rfl) ?_
  refine lv_iload_n hx hb dX4_hadBy_6 rfl (lv_at hl 1 rfl) ?_
  have hrv_3 := (va_recv hK hP (ci := 3) (q0 := 13 + 11 * j) rfl (zg_L _ _ _ _ _ _ _ _ _ _ hj _))
  obtain ⟨u_4, hu_4, hF⟩ := zbd hF
  refine zcall_i (va_runV (As := [.int x1]) (rest := [.int u_2]) ⟨hx, hb, hml, hown, hts⟩ (qX4_knownBy l D E KL kc on rw rd ft tr la mo j hj L N _ x1 _ hu_4) (cwV 1 hts (zgV k2_185 k2_186 k2_187 k0_6 k2_188) rfl rfl rfl (by decide +kernel) ⟨Nat.le_of_ble_eq_true rfl, Nat.le_of_ble_eq_true rfl⟩) (zpv hE hS hA hK hP hD hrv_3) rfl rfl hl.1 rfl (lv_room (Nat.le_of_ble_eq_true rfl)) dX4_hadBy_7 ⟨Nat.zero_le _, Nat.zero_le _⟩) hD hS hA (fun H locs hP hD hS => ?_)
  refine lv_iadd hx hb dX4_hadBy_10 ?_
  obtain rfl := Option.some.inj hF
  exact hend _ _ _ _ hP hD hS dX4_hadBy_11
def fX4_sell (N : Nat) (L : zLS) (x1 : Int32) (x2 : Int32) : Option zLS :=
  (fX4_isKeeper N L x1).bind fun u_2 =>
  if u_2 = 0 then
    some L
  else
    (fX4_isPiece N L x2).bind fun u_5 =>
    if u_5 = 0 then
      some L
    else
      if x1 < 0 ∨ 6 ≤ x1.toNatClampNeg then none else
      (fX4_hadBy N L x2).bind fun u_9 =>
      (fX4_worthIn N L (L.1.1 8) u_9).bind fun u_11 =>
      if x1 < 0 ∨ 6 ≤ x1.toNatClampNeg then none else
      if x1 < 0 ∨ 6 ≤ x1.toNatClampNeg then none else
      if x1 < 0 ∨ 6 ≤ x1.toNatClampNeg then none else
      if x2 < 0 ∨ 8 ≤ x2.toNatClampNeg then none else
      if (L.1.2 18 x2.toNatClampNeg) = (-1000000 : Int32) then
        if x2 < 0 ∨ 8 ≤ x2.toNatClampNeg then none else
        some (zLA (zLA (zLA L 15 (upd (L.1.2 15) x1.toNatClampNeg ((L.1.2 15 x1.toNatClampNeg) + u_11))) 16 (upd (L.1.2 16) x1.toNatClampNeg ((L.1.2 16 x1.toNatClampNeg) ||| ((1 : Int32) <<< (x2 &&& 31))))) 18 (upd (L.1.2 18) x2.toNatClampNeg (L.1.1 8)))
      else
        some (zLA (zLA L 15 (upd (L.1.2 15) x1.toNatClampNeg ((L.1.2 15 x1.toNatClampNeg) + u_11))) 16 (upd (L.1.2 16) x1.toNatClampNeg ((L.1.2 16 x1.toNatClampNeg) ||| ((1 : Int32) <<< (x2 &&& 31)))))
set_option maxHeartbeats 4000000 in
set_option maxRecDepth 100000 in
theorem qX4_sell (l : Launch) (D : va_G) (E : zE) (KL : List Nat) (kc : Nat → zKC) (on : zNS) (rw rd ft tr : zOS) (la : Nat → zLS) (mo : zMS) (j : Nat) (hj : j < 5) (L : zLS) (N sz : Nat) (x1 : Int32) (x2 : Int32) (out : zLS) (hF : fX4_sell N L x1 x2 = some out) : zCv l yX4_sell zwX4_sell ({ frames := 3, cells := 0, slots := 0, locals := 69 }) [.ref (E.1 (13 + 11 * j)), .int x1, .int x2] D E sz (zW E KL kc on rw rd ft tr (va_up la j L) mo) (zW E KL kc on rw rd ft tr (va_up la j out) mo) 0 0 := by
  refine zent_v (cc := cX4_sell) (nL := 3) (by decide) rfl (Nat.le_of_ble_eq_true rfl) ?_
  intro p e s m args below meth c Q A hx hb hml hown hts hA hK hP hD hS hE ls hl hend
  have hown : s.vm.findClass RX4 = some m.cls := hown
  have hl : lv_has ls 3 [(0, .ref (E.1 (13 + 11 * j))), (1, .int x1), (2, .int x2)] := hl
  rw [fX4_sell] at hF
  refine lv_aload_n hx hb dX4_sell_0 rfl (lv_at hl 0 rfl) ?_
  refine lv_iload_n hx hb dX4_sell_1 rfl (lv_at hl 1 rfl) ?_
  have hrv_1 := (va_recv hK hP (ci := 3) (q0 := 13 + 11 * j) rfl (zg_L _ _ _ _ _ _ _ _ _ _ hj _))
  obtain ⟨u_2, hu_2, hF⟩ := zbd hF
  refine zcall_i (va_runV (As := [.int x1]) (rest := []) ⟨hx, hb, hml, hown, hts⟩ (qX4_isKeeper l D E KL kc on rw rd ft tr la mo j hj L N _ x1 _ hu_2) (cwV 1 hts (zgV k2_169 k2_170 k2_171 k0_6 k2_172) rfl rfl rfl (by decide +kernel) ⟨Nat.le_of_ble_eq_true rfl, Nat.le_of_ble_eq_true rfl⟩) (zpv hE hS hA hK hP hD hrv_1) rfl rfl hl.1 rfl (lv_room (Nat.le_of_ble_eq_true rfl)) dX4_sell_2 ⟨Nat.zero_le _, Nat.zero_le _⟩) hD hS hA (fun H locs hP hD hS => ?_)
  refine lv_if_eq (tgt := 16) hx hb dX4_sell_5 (by decide) (fun c_3 => ?_) (fun c_3 => ?_)
  · have hF := zit c_3 hF
    obtain rfl := Option.some.inj hF
    exact hend _ _ _ _ hP hD hS dX4_sell_16
  · have hF := zif c_3 hF
    refine lv_aload_n hx hb dX4_sell_8 rfl (lv_at hl 0 rfl) ?_
    refine lv_iload_n hx hb dX4_sell_9 rfl (lv_at hl 2 rfl) ?_
    have hrv_4 := (va_recv hK hP (ci := 3) (q0 := 13 + 11 * j) rfl (zg_L _ _ _ _ _ _ _ _ _ _ hj _))
    obtain ⟨u_5, hu_5, hF⟩ := zbd hF
    refine zcall_i (va_runV (As := [.int x2]) (rest := []) ⟨hx, hb, hml, hown, hts⟩ (qX4_isPiece l D E KL kc on rw rd ft tr la mo j hj L N _ x2 _ hu_5) (cwV 1 hts (zgV k2_173 k2_174 k2_175 k0_6 k2_176) rfl rfl rfl (by decide +kernel) ⟨Nat.le_of_ble_eq_true rfl, Nat.le_of_ble_eq_true rfl⟩) (zpv hE hS hA hK hP hD hrv_4) rfl rfl hl.1 rfl (lv_room (Nat.le_of_ble_eq_true rfl)) dX4_sell_10 ⟨Nat.zero_le _, Nat.zero_le _⟩) hD hS hA (fun H locs hP hD hS => ?_)
    refine lv_if_ne (tgt := 17) hx hb dX4_sell_13 (by decide) (fun c_6 => ?_) (fun c_6 => ?_)
    · have hF := zif c_6 hF
      refine lv_aload_n hx hb dX4_sell_17 rfl (lv_at hl 0 rfl) ?_
      refine va_get (D := D) (ci := 3) (v := .ref (E.1 (13 + 11 * j + 7))) (C := RX4) (T := TX4) (N := 19) hx hb hts (zi iX4) hown hK hP (13 + 11 * j) (zg_L _ _ _ _ _ _ _ _ _ _ hj _) rfl 15 (by decide) (zh hts k0_134) (fun _ h9 => h9) rfl dX4_sell_18 ?_
      refine lv_iload_n hx hb dX4_sell_21 rfl (lv_at hl 1 rfl) ?_
      refine lv_dup2_11 hx hb dX4_sell_22 rfl rfl ?_
      obtain ⟨g_7, hF⟩ := zgd hF
      refine ziald (v := L.1.2 15 x1.toNatClampNeg) hx hb hK hP (13 + 11 * j + 7) 1 (zg_L_15 _ _ _ _ _ _ _ _ _ _ hj _) rfl g_7 rfl dX4_sell_23 ?_
      refine lv_aload_n hx hb dX4_sell_24 rfl (lv_at hl 0 rfl) ?_
      refine lv_aload_n hx hb dX4_sell_25 rfl (lv_at hl 0 rfl) ?_
      refine va_get (D := D) (ci := 3) (v := .int (L.1.1 8)) (C := RX4) (T := TX4) (N := 19) hx hb hts (zi iX4) hown hK hP (13 + 11 * j) (zg_L _ _ _ _ _ _ _ _ _ _ hj _) rfl 8 (by decide) (zh hts k0_125) (fun _ h9 => h9) rfl dX4_sell_26 ?_
      refine lv_aload_n hx hb dX4_sell_29 rfl (lv_at hl 0 rfl) ?_
      refine lv_iload_n hx hb dX4_sell_30 rfl (lv_at hl 2 rfl) ?_
      have hrv_8 := (va_recv hK hP (ci := 3) (q0 := 13 + 11 * j) rfl (zg_L _ _ _ _ _ _ _ _ _ _ hj _))
      obtain ⟨u_9, hu_9, hF⟩ := zbd hF
      refine zcall_i (va_runV (As := [.int x2]) (rest := [.int (L.1.1 8), .ref (E.1 (13 + 11 * j)), .int (L.1.2 15 x1.toNatClampNeg), .int x1, .ref (E.1 (13 + 11 * j + 7))]) ⟨hx, hb, hml, hown, hts⟩ (qX4_hadBy l D E KL kc on rw rd ft tr la mo j hj L N _ x2 _ hu_9) (cwV 1 hts (zgV k2_177 k2_178 k2_179 k0_6 k2_180) rfl rfl rfl (by decide +kernel) ⟨Nat.le_of_ble_eq_true rfl, Nat.le_of_ble_eq_true rfl⟩) (zpv hE hS hA hK hP hD hrv_8) rfl rfl hl.1 rfl (lv_room (Nat.le_of_ble_eq_true rfl)) dX4_sell_31 ⟨Nat.zero_le _, Nat.zero_le _⟩) hD hS hA (fun H locs hP hD hS => ?_)
      have hrv_10 := (va_recv hK hP (ci := 3) (q0 := 13 + 11 * j) rfl (zg_L _ _ _ _ _ _ _ _ _ _ hj _))
      obtain ⟨u_11, hu_11, hF⟩ := zbd hF
      refine zcall_i (va_runV (As := [.int (L.1.1 8), .int u_9]) (rest := [.int (L.1.2 15 x1.toNatClampNeg), .int x1, .ref (E.1 (13 + 11 * j + 7))]) ⟨hx, hb, hml, hown, hts⟩ (qX4_worthIn l D E KL kc on rw rd ft tr la mo j hj L N _ (L.1.1 8) u_9 _ hu_11) (cwV 2 hts (zgV k2_189 k2_190 k2_191 k0_6 k2_192) rfl rfl rfl (by decide +kernel) ⟨Nat.le_of_ble_eq_true rfl, Nat.le_of_ble_eq_true rfl⟩) (zpv hE hS hA hK hP hD hrv_10) rfl rfl hl.1 rfl (lv_room (Nat.le_of_ble_eq_true rfl)) dX4_sell_34 ⟨Nat.zero_le _, Nat.zero_le _⟩) hD hS hA (fun H locs hP hD hS => ?_)
      refine lv_iadd hx hb dX4_sell_37 ?_
      obtain ⟨g_12, hF⟩ := zgd hF
      refine va_iast hx hb hK hP hD hS (13 + 11 * j + 7) 1 (zg_L_15 _ _ _ _ _ _ _ _ _ _ hj _) rfl g_12 dX4_sell_38 (fun H locs hP hD hS => ?_)
      rw [zs_L_15 _ _ _ _ _ _ _ _ _ _ hj] at hP hD
      have hP : va_P D vwCl (zW E KL kc on rw rd ft tr (va_up la j (zLA L 15 (upd (L.1.2 15) x1.toNatClampNeg ((L.1.2 15 x1.toNatClampNeg) + u_11)))) mo) H := hP
      have hD : va_D A (zW E KL kc on rw rd ft tr (va_up la j (zLA L 15 (upd (L.1.2 15) x1.toNatClampNeg ((L.1.2 15 x1.toNatClampNeg) + u_11)))) mo) := hD
      refine lv_aload_n hx hb dX4_sell_39 rfl (lv_at hl 0 rfl) ?_
      refine va_get (D := D) (ci := 3) (v := .ref (E.1 (13 + 11 * j + 8))) (C := RX4) (T := TX4) (N := 19) hx hb hts (zi iX4) hown hK hP (13 + 11 * j) (zg_L _ _ _ _ _ _ _ _ _ _ hj _) rfl 16 (by decide) (zh hts k0_135) (fun _ h9 => h9) rfl dX4_sell_40 ?_
      refine lv_iload_n hx hb dX4_sell_43 rfl (lv_at hl 1 rfl) ?_
      refine lv_dup2_11 hx hb dX4_sell_44 rfl rfl ?_
      obtain ⟨g_13, hF⟩ := zgd hF
      refine ziald (v := L.1.2 16 x1.toNatClampNeg) hx hb hK hP (13 + 11 * j + 8) 1 (zg_L_16 _ _ _ _ _ _ _ _ _ _ hj _) rfl g_13 rfl dX4_sell_45 ?_
      refine lv_iconst (v := 1) hx hb dX4_sell_46 (by decide) ?_
      refine lv_iload_n hx hb dX4_sell_47 rfl (lv_at hl 2 rfl) ?_
      refine lv_ishl hx hb dX4_sell_48 ?_
      refine lv_ior hx hb dX4_sell_49 ?_
      obtain ⟨g_14, hF⟩ := zgd hF
      refine va_iast hx hb hK hP hD hS (13 + 11 * j + 8) 1 (zg_L_16 _ _ _ _ _ _ _ _ _ _ hj _) rfl g_14 dX4_sell_50 (fun H locs hP hD hS => ?_)
      rw [zs_L_16 _ _ _ _ _ _ _ _ _ _ hj] at hP hD
      have hP : va_P D vwCl (zW E KL kc on rw rd ft tr (va_up la j (zLA (zLA L 15 (upd (L.1.2 15) x1.toNatClampNeg ((L.1.2 15 x1.toNatClampNeg) + u_11))) 16 (upd (L.1.2 16) x1.toNatClampNeg ((L.1.2 16 x1.toNatClampNeg) ||| ((1 : Int32) <<< (x2 &&& 31)))))) mo) H := hP
      have hD : va_D A (zW E KL kc on rw rd ft tr (va_up la j (zLA (zLA L 15 (upd (L.1.2 15) x1.toNatClampNeg ((L.1.2 15 x1.toNatClampNeg) + u_11))) 16 (upd (L.1.2 16) x1.toNatClampNeg ((L.1.2 16 x1.toNatClampNeg) ||| ((1 : Int32) <<< (x2 &&& 31)))))) mo) := hD
      refine lv_aload_n hx hb dX4_sell_51 rfl (lv_at hl 0 rfl) ?_
      refine va_get (D := D) (ci := 3) (v := .ref (E.1 (13 + 11 * j + 10))) (C := RX4) (T := TX4) (N := 19) hx hb hts (zi iX4) hown hK hP (13 + 11 * j) (zg_L _ _ _ _ _ _ _ _ _ _ hj _) rfl 18 (by decide) (zh hts k0_137) (fun _ h9 => h9) rfl dX4_sell_52 ?_
      refine lv_iload_n hx hb dX4_sell_55 rfl (lv_at hl 2 rfl) ?_
      obtain ⟨g_15, hF⟩ := zgd hF
      refine ziald (v := L.1.2 18 x2.toNatClampNeg) hx hb hK hP (13 + 11 * j + 10) 1 (zg_L_18 _ _ _ _ _ _ _ _ _ _ hj _) rfl g_15 rfl dX4_sell_56 ?_
      refine lv_ldc (own := RX4) (v := -1000000) hx hb hown (zh hts k2_82) dX4_sell_57 ?_
      refine lv_icmp_ne (tgt := 72) hx hb dX4_sell_59 (by decide) (fun c_16 => ?_) (fun c_16 => ?_)
      · have hF := zif c_16 hF
        obtain rfl := Option.some.inj hF
        exact hend _ _ _ _ hP hD hS dX4_sell_72
      · have hF := zit c_16 hF
        refine lv_aload_n hx hb dX4_sell_62 rfl (lv_at hl 0 rfl) ?_
        refine va_get (D := D) (ci := 3) (v := .ref (E.1 (13 + 11 * j + 10))) (C := RX4) (T := TX4) (N := 19) hx hb hts (zi iX4) hown hK hP (13 + 11 * j) (zg_L _ _ _ _ _ _ _ _ _ _ hj _) rfl 18 (by decide) (zh hts k0_137) (fun _ h9 => h9) rfl dX4_sell_63 ?_
        refine lv_iload_n hx hb dX4_sell_66 rfl (lv_at hl 2 rfl) ?_
        refine lv_aload_n hx hb dX4_sell_67 rfl (lv_at hl 0 rfl) ?_
        refine va_get (D := D) (ci := 3) (v := .int (L.1.1 8)) (C := RX4) (T := TX4) (N := 19) hx hb hts (zi iX4) hown hK hP (13 + 11 * j) (zg_L _ _ _ _ _ _ _ _ _ _ hj _) rfl 8 (by decide) (zh hts k0_125) (fun _ h9 => h9) rfl dX4_sell_68 ?_
        obtain ⟨g_17, hF⟩ := zgd hF
        refine va_iast hx hb hK hP hD hS (13 + 11 * j + 10) 1 (zg_L_18 _ _ _ _ _ _ _ _ _ _ hj _) rfl g_17 dX4_sell_71 (fun H locs hP hD hS => ?_)
        rw [zs_L_18 _ _ _ _ _ _ _ _ _ _ hj] at hP hD
        have hP : va_P D vwCl (zW E KL kc on rw rd ft tr (va_up la j (zLA (zLA (zLA L 15 (upd (L.1.2 15) x1.toNatClampNeg ((L.1.2 15 x1.toNatClampNeg) + u_11))) 16 (upd (L.1.2 16) x1.toNatClampNeg ((L.1.2 16 x1.toNatClampNeg) ||| ((1 : Int32) <<< (x2 &&& 31))))) 18 (upd (L.1.2 18) x2.toNatClampNeg (L.1.1 8)))) mo) H := hP
        have hD : va_D A (zW E KL kc on rw rd ft tr (va_up la j (zLA (zLA (zLA L 15 (upd (L.1.2 15) x1.toNatClampNeg ((L.1.2 15 x1.toNatClampNeg) + u_11))) 16 (upd (L.1.2 16) x1.toNatClampNeg ((L.1.2 16 x1.toNatClampNeg) ||| ((1 : Int32) <<< (x2 &&& 31))))) 18 (upd (L.1.2 18) x2.toNatClampNeg (L.1.1 8)))) mo) := hD
        obtain rfl := Option.some.inj hF
        exact hend _ _ _ _ hP hD hS dX4_sell_72
    · have hF := zit c_6 hF
      obtain rfl := Option.some.inj hF
      exact hend _ _ _ _ hP hD hS dX4_sell_16
