def fX4_addKeeper (N : Nat) (KL : List Nat) (L : zLS) (a : Nat) : Option zLS :=
  if (L.1.1 6) < 0 then
    some L
  else
    if (6 : Int32) ≤ (L.1.1 6) then
      some L
    else
      if (L.1.1 6) < 0 ∨ 6 ≤ (L.1.1 6).toNatClampNeg then none else
      some (zLi (zLw L (va_up L.2 ((L.1.1 6).toNatClampNeg) (some a))) 6 (((zLw L (va_up L.2 ((L.1.1 6).toNatClampNeg) (some a))).1.1 6) + (1 : Int32)))
set_option maxHeartbeats 4000000 in
set_option maxRecDepth 100000 in
theorem qX4_addKeeper (l : Launch) (D : va_G) (E : zE) (KL : List Nat) (kc : Nat → zKC) (on : zNS) (rw rd ft tr : zOS) (la : Nat → zLS) (mo : zMS) (j : Nat) (hj : j < 5) (L : zLS) (a : Nat) (ha : a ∈ KL) (hk : (kc a).1 = 0 ∨ (kc a).1 = 1 ∨ (kc a).1 = 4 ∨ (kc a).1 = 7 ∨ (kc a).1 = 9) (N sz : Nat)  (out : zLS) (hF : fX4_addKeeper N KL L a = some out) : zCv l yX4_addKeeper zwX4_addKeeper ({ frames := 0, cells := 0, slots := 0, locals := 0 }) [.ref (E.1 (13 + 11 * j)), .ref a] D E sz (zW E KL kc on rw rd ft tr (va_up la j L) mo) (zW E KL kc on rw rd ft tr (va_up la j out) mo) 0 0 := by
  refine zent_v (cc := cX4_addKeeper) (nL := 2) (by decide) rfl (Nat.le_of_ble_eq_true rfl) ?_
  intro p e s m args below meth c Q A hx hb hml hown hts hA hK hP hD hS hE ls hl hend
  have hown : s.vm.findClass RX4 = some m.cls := hown
  have hl : lv_has ls 2 [(0, .ref (E.1 (13 + 11 * j))), (1, .ref a)] := hl
  rw [fX4_addKeeper] at hF
  refine lv_aload_n hx hb dX4_addKeeper_0 rfl (lv_at hl 0 rfl) ?_
  refine va_get (D := D) (ci := 3) (v := .int (L.1.1 6)) (C := RX4) (T := TX4) (N := 19) hx hb hts (zi iX4) hown hK hP (13 + 11 * j) (zg_L _ _ _ _ _ _ _ _ _ _ hj _) rfl 6 (by decide) (zh hts k0_116) (fun _ h9 => h9) rfl dX4_addKeeper_1 ?_
  refine lv_if_lt (tgt := 36) hx hb dX4_addKeeper_4 (by decide) (fun c_1 => ?_) (fun c_1 => ?_)
  · have hF := zit c_1 hF
    obtain rfl := Option.some.inj hF
    exact hend _ _ _ _ hP hD hS dX4_addKeeper_36
  · have hF := zif c_1 hF
    refine lv_aload_n hx hb dX4_addKeeper_7 rfl (lv_at hl 0 rfl) ?_
    refine va_get (D := D) (ci := 3) (v := .int (L.1.1 6)) (C := RX4) (T := TX4) (N := 19) hx hb hts (zi iX4) hown hK hP (13 + 11 * j) (zg_L _ _ _ _ _ _ _ _ _ _ hj _) rfl 6 (by decide) (zh hts k0_116) (fun _ h9 => h9) rfl dX4_addKeeper_8 ?_
    refine lv_bipush (v := 6) hx hb dX4_addKeeper_11 (by decide) ?_
    refine lv_icmp_ge (tgt := 36) hx hb dX4_addKeeper_13 (by decide) (fun c_2 => ?_) (fun c_2 => ?_)
    · have hF := zit c_2 hF
      obtain rfl := Option.some.inj hF
      exact hend _ _ _ _ hP hD hS dX4_addKeeper_36
    · have hF := zif c_2 hF
      refine lv_aload_n hx hb dX4_addKeeper_16 rfl (lv_at hl 0 rfl) ?_
      refine va_get (D := D) (ci := 3) (v := .ref (E.1 (13 + 11 * j + 3))) (C := RX4) (T := TX4) (N := 19) hx hb hts (zi iX4) hown hK hP (13 + 11 * j) (zg_L _ _ _ _ _ _ _ _ _ _ hj _) rfl 11 (by decide) (zh hts k0_130) (fun _ h9 => h9) rfl dX4_addKeeper_17 ?_
      refine lv_aload_n hx hb dX4_addKeeper_20 rfl (lv_at hl 0 rfl) ?_
      refine va_get (D := D) (ci := 3) (v := .int (L.1.1 6)) (C := RX4) (T := TX4) (N := 19) hx hb hts (zi iX4) hown hK hP (13 + 11 * j) (zg_L _ _ _ _ _ _ _ _ _ _ hj _) rfl 6 (by decide) (zh hts k0_116) (fun _ h9 => h9) rfl dX4_addKeeper_21 ?_
      refine lv_aload_n hx hb dX4_addKeeper_24 rfl (lv_at hl 1 rfl) ?_
      obtain ⟨g_3, hF⟩ := zgd hF
      refine va_astqM (E := RX3) hx hb hK hP hD hS (13 + 11 * j + 3) 3 (zg_L_11 _ _ _ _ _ _ _ _ _ _ hj _) rfl (zAny hE.2.2.2.2.1 hK hP ha (by omega)) g_3 dX4_addKeeper_25 (fun H locs hP hD hS => ?_)
      rw [zs_L_11 _ _ _ _ _ _ _ _ _ _ hj] at hP hD
      have hP : va_P D vwCl (zW E KL kc on rw rd ft tr (va_up la j (zLw L (va_up L.2 ((L.1.1 6).toNatClampNeg) (some a)))) mo) H := hP
      have hD : va_D A (zW E KL kc on rw rd ft tr (va_up la j (zLw L (va_up L.2 ((L.1.1 6).toNatClampNeg) (some a)))) mo) := hD
      refine lv_aload_n hx hb dX4_addKeeper_26 rfl (lv_at hl 0 rfl) ?_
      refine lv_dup hx hb dX4_addKeeper_27 rfl ?_
      refine va_get (D := D) (ci := 3) (v := .int ((zLw L (va_up L.2 ((L.1.1 6).toNatClampNeg) (some a))).1.1 6)) (C := RX4) (T := TX4) (N := 19) hx hb hts (zi iX4) hown hK hP (13 + 11 * j) (zg_L _ _ _ _ _ _ _ _ _ _ hj _) rfl 6 (by decide) (zh hts k0_116) (fun _ h9 => h9) rfl dX4_addKeeper_28 ?_
      refine lv_iconst (v := 1) hx hb dX4_addKeeper_31 (by decide) ?_
      refine lv_iadd hx hb dX4_addKeeper_32 ?_
      refine va_put (D := D) (ci := 3) (v := .int (((zLw L (va_up L.2 ((L.1.1 6).toNatClampNeg) (some a))).1.1 6) + (1 : Int32))) (ty := .int) (C := RX4) (T := TX4) (N := 19) hx hb hts (zi iX4) tyX4 tyX4_ok nmX4 hown hK hP hD hS (13 + 11 * j) (zg_L _ _ _ _ _ _ _ _ _ _ hj _) rfl 6 (by decide) (zh hts k0_116) (fun _ h9 => h9) rfl (by decide +kernel) rfl rfl (Nat.le_of_ble_eq_true rfl) dX4_addKeeper_33 (fun H locs hP hD hS => ?_)
      rw [zs_L_6 _ _ _ _ _ _ _ _ _ _ hj] at hP hD
      obtain rfl := Option.some.inj hF
      exact hend _ _ _ _ hP hD hS dX4_addKeeper_36
