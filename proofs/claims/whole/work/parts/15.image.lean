set_option maxHeartbeats 4000000 in
set_option maxRecDepth 100000 in
theorem qX11_imageAt (l : Launch) (D : va_G) (E : zE) (KL : List Nat) (kc : Nat → zKC) (on : zNS) (rw rd ft tr : zOS) (la : Nat → zLS) (mo : zMS) (sz : Nat) (x1 : Int32) (i : Nat) (hik : i = if x1 = 0 then 0 else 1) : zCq l yX11_imageAt zwX11_imageAt ({ frames := 0, cells := 0, slots := 0, locals := 0 } : Room) [.ref (E.1 0), .int x1] D E sz (zW E KL kc on rw rd ft tr la mo) (zW E KL kc on rw rd ft tr la mo) (some (E.1 (13 + 11 * i))) 0 0 := by
  refine zent_q (nm := "OldNews$Land") (cc := cX11_imageAt) (nL := 2) (by decide) rfl (Nat.le_of_ble_eq_true rfl) ?_
  intro p e s m args below meth c Q A hx hb hml hown hts hA hK hP hD hS hE ls hl hend
  have hown : s.vm.findClass RX11 = some m.cls := hown
  have hl : lv_has ls 2 [(0, .ref (E.1 0)), (1, .int x1)] := hl
  refine lv_iload_n hx hb dX11_imageAt_0 rfl (lv_at hl 1 rfl) ?_
  refine lv_if_ne (tgt := 11) hx hb dX11_imageAt_1 (by decide) (fun c1 => ?_) (fun c1 => ?_)
  · rw [if_neg c1] at hik
    subst hik
    refine lv_aload_n hx hb dX11_imageAt_11 rfl (lv_at hl 0 rfl) ?_
    refine va_get (D := D) (ci := 10) (v := .ref (E.1 (13 + 11 * 1))) (C := RX11) (T := TX11) (N := 9) hx hb hts (zi iX11) hown hK hP 0 (zg_on _ _ _ _ _ _ _ _ _ _) rfl 5 (by decide) (zh hts k0_220) (fun _ h9 => h9) rfl dX11_imageAt_12 ?_
    exact hend _ _ _ _ hP hD hS dX11_imageAt_15
  · rw [if_pos c1] at hik
    subst hik
    refine lv_aload_n hx hb dX11_imageAt_4 rfl (lv_at hl 0 rfl) ?_
    refine va_get (D := D) (ci := 10) (v := .ref (E.1 (13 + 11 * 0))) (C := RX11) (T := TX11) (N := 9) hx hb hts (zi iX11) hown hK hP 0 (zg_on _ _ _ _ _ _ _ _ _ _) rfl 4 (by decide) (zh hts k0_219) (fun _ h9 => h9) rfl dX11_imageAt_5 ?_
    refine lv_goto (tgt := 15) hx hb dX11_imageAt_8 (by decide) ?_
    exact hend _ _ _ _ hP hD hS dX11_imageAt_15
def fX11_image (N : Nat) (KL : List Nat) (kc : Nat → zKC) (L : zLS) (T : zLS) (x1 : Int32) : Option (Int32 × zLS) :=
  (fX11_within N x1 (0 : Int32) (1 : Int32)).bind fun u_1 =>
  if u_1 = 0 then
    some ((-1000001 : Int32), T)
  else
    (fX4_isTold N L).bind fun u_4 =>
    if u_4 = 0 then
      some ((-1000002 : Int32), T)
    else
      (fX4_takeFrom N KL kc T L).bind fun u_7 =>
      some ((1 : Int32), u_7)
set_option maxHeartbeats 4000000 in
set_option maxRecDepth 100000 in
theorem qX11_image (l : Launch) (D : va_G) (E : zE) (KL : List Nat) (kc : Nat → zKC) (on : zNS) (rw rd ft tr : zOS) (la : Nat → zLS) (mo : zMS) (hj : on.2.1 < 5) (L : zLS) (i : Nat) (hi : i < 5) (T : zLS) (hne : on.2.1 ≠ i) (N sz : Nat) (x1 : Int32) (hik : i = if x1 = 0 then 0 else 1) (out : Int32 × zLS) (hF : fX11_image N KL kc L T x1 = some out) : zCi l yX11_image zwX11_image ({ frames := 2, cells := 0, slots := 0, locals := 82 }) [.ref (E.1 0), .int x1] D E sz (zW E KL kc on rw rd ft tr (va_up (va_up la on.2.1 L) i T) mo) (zW E KL kc on rw rd ft tr (va_up (va_up la on.2.1 L) i out.2) mo) out.1 0 0 := by
  refine zent_i (cc := cX11_image) (nL := 2) (by decide) rfl (Nat.le_of_ble_eq_true rfl) ?_
  intro p e s m args below meth c Q A hx hb hml hown hts hA hK hP hD hS hE ls hl hend
  have hown : s.vm.findClass RX11 = some m.cls := hown
  have hl : lv_has ls 2 [(0, .ref (E.1 0)), (1, .int x1)] := hl
  rw [fX11_image] at hF
  refine lv_iload_n hx hb dX11_image_0 rfl (lv_at hl 1 rfl) ?_
  refine lv_iconst (v := 0) hx hb dX11_image_1 (by decide) ?_
  refine lv_iconst (v := 1) hx hb dX11_image_2 (by decide) ?_
  obtain ⟨u_1, hu_1, hF⟩ := zbd hF
  refine zcall_i (va_runS (As := [.int x1, .int (0 : Int32), .int (1 : Int32)]) (rest := []) ⟨hx, hb, hml, hown, hts⟩ (qX11_within l D E KL kc on rw rd ft tr (va_up (va_up la on.2.1 L) i T) mo N _ x1 (0 : Int32) (1 : Int32) _ hu_1) (va_cwS 3 hts (zgS k1_10 k1_11 k0_1 k1_12) rfl rfl rfl (by decide +kernel) ⟨Nat.le_of_ble_eq_true rfl, Nat.le_of_ble_eq_true rfl⟩) (zps hE hS hA hK hP hD) rfl rfl hl.1 rfl (lv_room (Nat.le_of_ble_eq_true rfl)) dX11_image_3 ⟨Nat.zero_le _, Nat.zero_le _⟩) hD hS hA (fun H locs hP hD hS => ?_)
  refine lv_if_ne (tgt := 12) hx hb dX11_image_6 (by decide) (fun c_2 => ?_) (fun c_2 => ?_)
  · have hF := zif c_2 hF
    refine lv_aload_n hx hb dX11_image_12 rfl (lv_at hl 0 rfl) ?_
    refine va_get (D := D) (ci := 10) (v := .ref (E.1 (13 + 11 * on.2.1))) (C := RX11) (T := TX11) (N := 9) hx hb hts (zi iX11) hown hK hP 0 (zg_on _ _ _ _ _ _ _ _ _ _) rfl 6 (by decide) (zh hts k0_221) (fun _ h9 => h9) rfl dX11_image_13 ?_
    rw [zup_comm _ (hne)] at hP hD
    have hrv_3 := (va_recv hK hP (ci := 3) (q0 := 13 + 11 * on.2.1) rfl (zg_L _ _ _ _ _ _ _ _ _ _ hj _))
    obtain ⟨u_4, hu_4, hF⟩ := zbd hF
    refine zcall_i (va_runV (As := []) (rest := []) ⟨hx, hb, hml, hown, hts⟩ (qX4_isTold l D E KL kc on rw rd ft tr (va_up la i T) mo on.2.1 hj L N _ _ hu_4) (cwV 0 hts (zgV k2_100 k2_101 k2_102 k0_6 k2_103) rfl rfl rfl (by decide +kernel) ⟨Nat.le_of_ble_eq_true rfl, Nat.le_of_ble_eq_true rfl⟩) (zpv hE hS hA hK hP hD hrv_3) rfl rfl hl.1 rfl (lv_room (Nat.le_of_ble_eq_true rfl)) dX11_image_16 ⟨Nat.zero_le _, Nat.zero_le _⟩) hD hS hA (fun H locs hP hD hS => ?_)
    refine lv_if_ne (tgt := 25) hx hb dX11_image_19 (by decide) (fun c_5 => ?_) (fun c_5 => ?_)
    · have hF := zif c_5 hF
      refine lv_aload_n hx hb dX11_image_25 rfl (lv_at hl 0 rfl) ?_
      refine lv_iload_n hx hb dX11_image_26 rfl (lv_at hl 1 rfl) ?_
      refine zcall_q (va_runV (As := [.int x1]) (rest := []) ⟨hx, hb, hml, hown, hts⟩ (qX11_imageAt l D E KL kc on rw rd ft tr (va_up (va_up la i T) on.2.1 L) mo _ x1 i hik) (cwV 1 hts (zgV k3_165 k3_167 kp1_15 k0_1 k3_168) rfl rfl rfl (by decide +kernel) ⟨Nat.le_of_ble_eq_true rfl, Nat.le_of_ble_eq_true rfl⟩) (zpv hE hS hA hK hP hD (va_recv hK hP (ci := 10) (q0 := 0) rfl (zg_on _ _ _ _ _ _ _ _ _ _))) rfl rfl hl.1 rfl (lv_room (Nat.le_of_ble_eq_true rfl)) dX11_image_27 ⟨Nat.zero_le _, Nat.zero_le _⟩) hD hS hA (fun H locs hP hD hS => ?_)
      have ev : va_rf (some (E.1 (13 + 11 * i))) = .ref (E.1 (13 + 11 * i)) := rfl
      rw [ev]
      refine lv_aload_n hx hb dX11_image_30 rfl (lv_at hl 0 rfl) ?_
      refine va_get (D := D) (ci := 10) (v := .ref (E.1 (13 + 11 * on.2.1))) (C := RX11) (T := TX11) (N := 9) hx hb hts (zi iX11) hown hK hP 0 (zg_on _ _ _ _ _ _ _ _ _ _) rfl 6 (by decide) (zh hts k0_221) (fun _ h9 => h9) rfl dX11_image_31 ?_
      rw [zup_comm _ (hne.symm)] at hP hD
      have hrv_6 := (va_recv hK hP (ci := 3) (q0 := 13 + 11 * i) rfl (zg_L _ _ _ _ _ _ _ _ _ _ hi _))
      rw [zup_comm _ (hne)] at hP hD
      obtain ⟨u_7, hu_7, hF⟩ := zbd hF
      refine zcall_v (va_runV (As := [.ref (E.1 (13 + 11 * on.2.1))]) (rest := []) ⟨hx, hb, hml, hown, hts⟩ (qX4_takeFrom l D E KL kc on rw rd ft tr la mo i hi T on.2.1 hj L (hne.symm) N _ _ hu_7) (cwV 1 hts (zgV k3_169 k3_123 k3_124 k0_6 k3_125) rfl rfl rfl (by decide +kernel) ⟨Nat.le_of_ble_eq_true rfl, Nat.le_of_ble_eq_true rfl⟩) (zpv hE hS hA hK hP hD hrv_6) rfl rfl hl.1 rfl (lv_room (Nat.le_of_ble_eq_true rfl)) dX11_image_34 ⟨Nat.zero_le _, Nat.zero_le _⟩) hD hS hA (fun H locs hP hD hS => ?_)
      refine lv_iconst (v := 1) hx hb dX11_image_37 (by decide) ?_
      rw [zup_comm _ (hne.symm)] at hP hD
      obtain rfl := Option.some.inj hF
      exact hend _ _ _ _ hP hD hS dX11_image_38
    · have hF := zit c_5 hF
      refine lv_ldc (own := RX11) (v := -1000002) hx hb hown (zh hts k2_104) dX11_image_22 ?_
      rw [zup_comm _ (hne.symm)] at hP hD
      obtain rfl := Option.some.inj hF
      exact hend _ _ _ _ hP hD hS dX11_image_24
  · have hF := zit c_2 hF
    refine lv_ldc (own := RX11) (v := -1000001) hx hb hown (zh hts k1_13) dX11_image_9 ?_
    obtain rfl := Option.some.inj hF
    exact hend _ _ _ _ hP hD hS dX11_image_11
def fX11_restore (N : Nat) (KL : List Nat) (kc : Nat → zKC) (L : zLS) (T : zLS) (x1 : Int32) : Option (Int32 × zLS) :=
  (fX11_within N x1 (0 : Int32) (1 : Int32)).bind fun u_1 =>
  if u_1 = 0 then
    some ((-1000001 : Int32), L)
  else
    (fX4_isTold N T).bind fun u_4 =>
    if u_4 = 0 then
      some ((-1000002 : Int32), L)
    else
      (fX4_takeFrom N KL kc L T).bind fun u_7 =>
      some ((1 : Int32), u_7)
set_option maxHeartbeats 4000000 in
set_option maxRecDepth 100000 in
theorem qX11_restore (l : Launch) (D : va_G) (E : zE) (KL : List Nat) (kc : Nat → zKC) (on : zNS) (rw rd ft tr : zOS) (la : Nat → zLS) (mo : zMS) (hj : on.2.1 < 5) (L : zLS) (i : Nat) (hi : i < 5) (T : zLS) (hne : on.2.1 ≠ i) (N sz : Nat) (x1 : Int32) (hik : i = if x1 = 0 then 0 else 1) (out : Int32 × zLS) (hF : fX11_restore N KL kc L T x1 = some out) : zCi l yX11_restore zwX11_restore ({ frames := 2, cells := 0, slots := 0, locals := 82 }) [.ref (E.1 0), .int x1] D E sz (zW E KL kc on rw rd ft tr (va_up (va_up la on.2.1 L) i T) mo) (zW E KL kc on rw rd ft tr (va_up (va_up la on.2.1 out.2) i T) mo) out.1 0 0 := by
  refine zent_i (cc := cX11_restore) (nL := 2) (by decide) rfl (Nat.le_of_ble_eq_true rfl) ?_
  intro p e s m args below meth c Q A hx hb hml hown hts hA hK hP hD hS hE ls hl hend
  have hown : s.vm.findClass RX11 = some m.cls := hown
  have hl : lv_has ls 2 [(0, .ref (E.1 0)), (1, .int x1)] := hl
  rw [fX11_restore] at hF
  refine lv_iload_n hx hb dX11_restore_0 rfl (lv_at hl 1 rfl) ?_
  refine lv_iconst (v := 0) hx hb dX11_restore_1 (by decide) ?_
  refine lv_iconst (v := 1) hx hb dX11_restore_2 (by decide) ?_
  obtain ⟨u_1, hu_1, hF⟩ := zbd hF
  refine zcall_i (va_runS (As := [.int x1, .int (0 : Int32), .int (1 : Int32)]) (rest := []) ⟨hx, hb, hml, hown, hts⟩ (qX11_within l D E KL kc on rw rd ft tr (va_up (va_up la on.2.1 L) i T) mo N _ x1 (0 : Int32) (1 : Int32) _ hu_1) (va_cwS 3 hts (zgS k1_10 k1_11 k0_1 k1_12) rfl rfl rfl (by decide +kernel) ⟨Nat.le_of_ble_eq_true rfl, Nat.le_of_ble_eq_true rfl⟩) (zps hE hS hA hK hP hD) rfl rfl hl.1 rfl (lv_room (Nat.le_of_ble_eq_true rfl)) dX11_restore_3 ⟨Nat.zero_le _, Nat.zero_le _⟩) hD hS hA (fun H locs hP hD hS => ?_)
  refine lv_if_ne (tgt := 12) hx hb dX11_restore_6 (by decide) (fun c_2 => ?_) (fun c_2 => ?_)
  · have hF := zif c_2 hF
    refine lv_aload_n hx hb dX11_restore_12 rfl (lv_at hl 0 rfl) ?_
    refine lv_iload_n hx hb dX11_restore_13 rfl (lv_at hl 1 rfl) ?_
    refine zcall_q (va_runV (As := [.int x1]) (rest := []) ⟨hx, hb, hml, hown, hts⟩ (qX11_imageAt l D E KL kc on rw rd ft tr (va_up (va_up la on.2.1 L) i T) mo _ x1 i hik) (cwV 1 hts (zgV k3_165 k3_167 kp1_15 k0_1 k3_168) rfl rfl rfl (by decide +kernel) ⟨Nat.le_of_ble_eq_true rfl, Nat.le_of_ble_eq_true rfl⟩) (zpv hE hS hA hK hP hD (va_recv hK hP (ci := 10) (q0 := 0) rfl (zg_on _ _ _ _ _ _ _ _ _ _))) rfl rfl hl.1 rfl (lv_room (Nat.le_of_ble_eq_true rfl)) dX11_restore_14 ⟨Nat.zero_le _, Nat.zero_le _⟩) hD hS hA (fun H locs hP hD hS => ?_)
    have ev : va_rf (some (E.1 (13 + 11 * i))) = .ref (E.1 (13 + 11 * i)) := rfl
    rw [ev]
    have hrv_3 := (va_recv hK hP (ci := 3) (q0 := 13 + 11 * i) rfl (zg_L _ _ _ _ _ _ _ _ _ _ hi _))
    obtain ⟨u_4, hu_4, hF⟩ := zbd hF
    refine zcall_i (va_runV (As := []) (rest := []) ⟨hx, hb, hml, hown, hts⟩ (qX4_isTold l D E KL kc on rw rd ft tr (va_up la on.2.1 L) mo i hi T N _ _ hu_4) (cwV 0 hts (zgV k2_100 k2_101 k2_102 k0_6 k2_103) rfl rfl rfl (by decide +kernel) ⟨Nat.le_of_ble_eq_true rfl, Nat.le_of_ble_eq_true rfl⟩) (zpv hE hS hA hK hP hD hrv_3) rfl rfl hl.1 rfl (lv_room (Nat.le_of_ble_eq_true rfl)) dX11_restore_17 ⟨Nat.zero_le _, Nat.zero_le _⟩) hD hS hA (fun H locs hP hD hS => ?_)
    refine lv_if_ne (tgt := 26) hx hb dX11_restore_20 (by decide) (fun c_5 => ?_) (fun c_5 => ?_)
    · have hF := zif c_5 hF
      refine lv_aload_n hx hb dX11_restore_26 rfl (lv_at hl 0 rfl) ?_
      refine va_get (D := D) (ci := 10) (v := .ref (E.1 (13 + 11 * on.2.1))) (C := RX11) (T := TX11) (N := 9) hx hb hts (zi iX11) hown hK hP 0 (zg_on _ _ _ _ _ _ _ _ _ _) rfl 6 (by decide) (zh hts k0_221) (fun _ h9 => h9) rfl dX11_restore_27 ?_
      refine lv_aload_n hx hb dX11_restore_30 rfl (lv_at hl 0 rfl) ?_
      refine lv_iload_n hx hb dX11_restore_31 rfl (lv_at hl 1 rfl) ?_
      refine zcall_q (va_runV (As := [.int x1]) (rest := [.ref (E.1 (13 + 11 * on.2.1))]) ⟨hx, hb, hml, hown, hts⟩ (qX11_imageAt l D E KL kc on rw rd ft tr (va_up (va_up la on.2.1 L) i T) mo _ x1 i hik) (cwV 1 hts (zgV k3_165 k3_167 kp1_15 k0_1 k3_168) rfl rfl rfl (by decide +kernel) ⟨Nat.le_of_ble_eq_true rfl, Nat.le_of_ble_eq_true rfl⟩) (zpv hE hS hA hK hP hD (va_recv hK hP (ci := 10) (q0 := 0) rfl (zg_on _ _ _ _ _ _ _ _ _ _))) rfl rfl hl.1 rfl (lv_room (Nat.le_of_ble_eq_true rfl)) dX11_restore_32 ⟨Nat.zero_le _, Nat.zero_le _⟩) hD hS hA (fun H locs hP hD hS => ?_)
      have ev : va_rf (some (E.1 (13 + 11 * i))) = .ref (E.1 (13 + 11 * i)) := rfl
      rw [ev]
      rw [zup_comm _ (hne)] at hP hD
      have hrv_6 := (va_recv hK hP (ci := 3) (q0 := 13 + 11 * on.2.1) rfl (zg_L _ _ _ _ _ _ _ _ _ _ hj _))
      rw [zup_comm _ (hne.symm)] at hP hD
      obtain ⟨u_7, hu_7, hF⟩ := zbd hF
      refine zcall_v (va_runV (As := [.ref (E.1 (13 + 11 * i))]) (rest := []) ⟨hx, hb, hml, hown, hts⟩ (qX4_takeFrom l D E KL kc on rw rd ft tr la mo on.2.1 hj L i hi T (hne) N _ _ hu_7) (cwV 1 hts (zgV k3_169 k3_123 k3_124 k0_6 k3_125) rfl rfl rfl (by decide +kernel) ⟨Nat.le_of_ble_eq_true rfl, Nat.le_of_ble_eq_true rfl⟩) (zpv hE hS hA hK hP hD hrv_6) rfl rfl hl.1 rfl (lv_room (Nat.le_of_ble_eq_true rfl)) dX11_restore_35 ⟨Nat.zero_le _, Nat.zero_le _⟩) hD hS hA (fun H locs hP hD hS => ?_)
      refine lv_iconst (v := 1) hx hb dX11_restore_38 (by decide) ?_
      obtain rfl := Option.some.inj hF
      exact hend _ _ _ _ hP hD hS dX11_restore_39
    · have hF := zit c_5 hF
      refine lv_ldc (own := RX11) (v := -1000002) hx hb hown (zh hts k2_104) dX11_restore_23 ?_
      obtain rfl := Option.some.inj hF
      exact hend _ _ _ _ hP hD hS dX11_restore_25
  · have hF := zit c_2 hF
    refine lv_ldc (own := RX11) (v := -1000001) hx hb hown (zh hts k1_13) dX11_restore_9 ?_
    obtain rfl := Option.some.inj hF
    exact hend _ _ _ _ hP hD hS dX11_restore_11
