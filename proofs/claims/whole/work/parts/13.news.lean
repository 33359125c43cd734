def fX11_fault (N : Nat) (rd : zOS) : Option Int32 :=
  some (rd.1 1)
set_option maxHeartbeats 4000000 in
set_option maxRecDepth 100000 in
theorem qX11_fault (l : Launch) (D : va_G) (E : zE) (KL : List Nat) (kc : Nat → zKC) (on : zNS) (rw rd ft tr : zOS) (la : Nat → zLS) (mo : zMS) (N sz : Nat)  (out : Int32) (hF : fX11_fault N rd = some out) : zCi l yX11_fault zwX11_fault ({ frames := 0, cells := 0, slots := 0, locals := 0 }) [.ref (E.1 0)] D E sz (zW E KL kc on rw rd ft tr la mo) (zW E KL kc on rw rd ft tr la mo) out 0 0 := by
  refine zent_i (cc := cX11_fault) (nL := 1) (by decide) rfl (Nat.le_of_ble_eq_true rfl) ?_
  intro p e s m args below meth c Q A hx hb hml hown hts hA hK hP hD hS hE ls hl hend
  have hown : s.vm.findClass RX11 = some m.cls := hown
  have hl : lv_has ls 1 [(0, .ref (E.1 0))] := hl
  rw [fX11_fault] at hF
  refine lv_aload_n hx hb dX11_fault_0 rfl (lv_at hl 0 rfl) ?_
  refine va_get (D := D) (ci := 10) (v := .ref (E.1 5)) (C := RX11) (T := TX11) (N := 9) hx hb hts (zi iX11) hown hK hP 0 (zg_on _ _ _ _ _ _ _ _ _ _) rfl 1 (by decide) (zh hts k0_216) (fun _ h9 => h9) rfl dX11_fault_1 ?_
  refine va_get (D := D) (ci := 5) (v := .int (rd.1 1)) (C := RX6) (T := TX6) (N := 8) hx hb hts (zi iX6) hown hK hP 5 (zg_rd _ _ _ _ _ _ _ _ _ _) rfl 1 (by decide) (zh hts k0_57) (fun _ h9 => h9) rfl dX11_fault_4 ?_
  obtain rfl := Option.some.inj hF
  exact hend _ _ _ _ hP hD hS dX11_fault_7
def fX11_tell (N : Nat) (L : zLS) (x1 : Int32) (x2 : Int32) (x3 : Int32) : Option (Int32 × zLS) :=
  (fX4_isKeeper N L x1).bind fun u_2 =>
  if u_2 = 0 then
    some ((-1000001 : Int32), L)
  else
    (fX4_isPiece N L x2).bind fun u_5 =>
    if u_5 = 0 then
      some ((-1000001 : Int32), L)
    else
      (fX4_isKeeper N L x3).bind fun u_8 =>
      if u_8 = 0 then
        some ((-1000001 : Int32), L)
      else
        if x1 = x3 then
          some ((-1000001 : Int32), L)
        else
          (fX4_countOf N L x1 x2).bind fun u_12 =>
          if (1 : Int32) ≤ u_12 then
            (fX4_countOf N L x3 x2).bind fun u_15 =>
            if u_15 < (9 : Int32) then
              (fX4_addOne N L x3 x2).bind fun u_18 =>
              some (u_18.1, u_18.2)
            else
              some ((-1000003 : Int32), L)
          else
            some ((-1000002 : Int32), L)
set_option maxHeartbeats 4000000 in
set_option maxRecDepth 100000 in
theorem qX11_tell (l : Launch) (D : va_G) (E : zE) (KL : List Nat) (kc : Nat → zKC) (on : zNS) (rw rd ft tr : zOS) (la : Nat → zLS) (mo : zMS) (hj : on.2.1 < 5) (L : zLS) (N sz : Nat) (x1 : Int32) (x2 : Int32) (x3 : Int32) (out : Int32 × zLS) (hF : fX11_tell N L x1 x2 x3 = some out) : zCi l yX11_tell zwX11_tell ({ frames := 2, cells := 0, slots := 0, locals := 45 }) [.ref (E.1 0), .int x1, .int x2, .int x3] D E sz (zW E KL kc on rw rd ft tr (va_up la on.2.1 L) mo) (zW E KL kc on rw rd ft tr (va_up la on.2.1 out.2) mo) out.1 0 0 := by
  refine zent_i (cc := cX11_tell) (nL := 4) (by decide) rfl (Nat.le_of_ble_eq_true rfl) ?_
  intro p e s m args below meth c Q A hx hb hml hown hts hA hK hP hD hS hE ls hl hend
  have hown : s.vm.findClass RX11 = some m.cls := hown
  have hl : lv_has ls 4 [(0, .ref (E.1 0)), (1, .int x1), (2, .int x2), (3, .int x3)] := hl
  rw [fX11_tell] at hF
  refine lv_aload_n hx hb dX11_tell_0 rfl (lv_at hl 0 rfl) ?_
  refine va_get (D := D) (ci := 10) (v := .ref (E.1 (13 + 11 * on.2.1))) (C := RX11) (T := TX11) (N := 9) hx hb hts (zi iX11) hown hK hP 0 (zg_on _ _ _ _ _ _ _ _ _ _) rfl 6 (by decide) (zh hts k0_221) (fun _ h9 => h9) rfl dX11_tell_1 ?_
  refine lv_iload_n hx hb dX11_tell_4 rfl (lv_at hl 1 rfl) ?_
  have hrv_1 := (va_recv hK hP (ci := 3) (q0 := 13 + 11 * on.2.1) rfl (zg_L _ _ _ _ _ _ _ _ _ _ hj _))
  obtain ⟨u_2, hu_2, hF⟩ := zbd hF
  refine zcall_i (va_runV (As := [.int x1]) (rest := []) ⟨hx, hb, hml, hown, hts⟩ (qX4_isKeeper l D E KL kc on rw rd ft tr la mo on.2.1 hj L N _ x1 _ hu_2) (cwV 1 hts (zgV k2_212 k2_170 k2_171 k0_6 k2_172) rfl rfl rfl (by decide +kernel) ⟨Nat.le_of_ble_eq_true rfl, Nat.le_of_ble_eq_true rfl⟩) (zpv hE hS hA hK hP hD hrv_1) rfl rfl hl.1 rfl (lv_room (Nat.le_of_ble_eq_true rfl)) dX11_tell_5 ⟨Nat.zero_le _, Nat.zero_le _⟩) hD hS hA (fun H locs hP hD hS => ?_)
  refine lv_if_eq (tgt := 38) hx hb dX11_tell_8 (by decide) (fun c_3 => ?_) (fun c_3 => ?_)
  · have hF := zit c_3 hF
    refine lv_ldc (own := RX11) (v := -1000001) hx hb hown (zh hts k1_13) dX11_tell_38 ?_
    obtain rfl := Option.some.inj hF
    exact hend _ _ _ _ hP hD hS dX11_tell_40
  · have hF := zif c_3 hF
    refine lv_aload_n hx hb dX11_tell_11 rfl (lv_at hl 0 rfl) ?_
    refine va_get (D := D) (ci := 10) (v := .ref (E.1 (13 + 11 * on.2.1))) (C := RX11) (T := TX11) (N := 9) hx hb hts (zi iX11) hown hK hP 0 (zg_on _ _ _ _ _ _ _ _ _ _) rfl 6 (by decide) (zh hts k0_221) (fun _ h9 => h9) rfl dX11_tell_12 ?_
    refine lv_iload_n hx hb dX11_tell_15 rfl (lv_at hl 2 rfl) ?_
    have hrv_4 := (va_recv hK hP (ci := 3) (q0 := 13 + 11 * on.2.1) rfl (zg_L _ _ _ _ _ _ _ _ _ _ hj _))
    obtain ⟨u_5, hu_5, hF⟩ := zbd hF
    refine zcall_i (va_runV (As := [.int x2]) (rest := []) ⟨hx, hb, hml, hown, hts⟩ (qX4_isPiece l D E KL kc on rw rd ft tr la mo on.2.1 hj L N _ x2 _ hu_5) (cwV 1 hts (zgV k2_213 k2_174 k2_175 k0_6 k2_176) rfl rfl rfl (by decide +kernel) ⟨Nat.le_of_ble_eq_true rfl, Nat.le_of_ble_eq_true rfl⟩) (zpv hE hS hA hK hP hD hrv_4) rfl rfl hl.1 rfl (lv_room (Nat.le_of_ble_eq_true rfl)) dX11_tell_16 ⟨Nat.zero_le _, Nat.zero_le _⟩) hD hS hA (fun H locs hP hD hS => ?_)
    refine lv_if_eq (tgt := 38) hx hb dX11_tell_19 (by decide) (fun c_6 => ?_) (fun c_6 => ?_)
    · have hF := zit c_6 hF
      refine lv_ldc (own := RX11) (v := -1000001) hx hb hown (zh hts k1_13) dX11_tell_38 ?_
      obtain rfl := Option.some.inj hF
      exact hend _ _ _ _ hP hD hS dX11_tell_40
    · have hF := zif c_6 hF
      refine lv_aload_n hx hb dX11_tell_22 rfl (lv_at hl 0 rfl) ?_
      refine va_get (D := D) (ci := 10) (v := .ref (E.1 (13 + 11 * on.2.1))) (C := RX11) (T := TX11) (N := 9) hx hb hts (zi iX11) hown hK hP 0 (zg_on _ _ _ _ _ _ _ _ _ _) rfl 6 (by decide) (zh hts k0_221) (fun _ h9 => h9) rfl dX11_tell_23 ?_
      refine lv_iload_n hx hb dX11_tell_26 rfl (lv_at hl 3 rfl) ?_
      have hrv_7 := (va_recv hK hP (ci := 3) (q0 := 13 + 11 * on.2.1) rfl (zg_L _ _ _ _ _ _ _ _ _ _ hj _))
      obtain ⟨u_8, hu_8, hF⟩ := zbd hF
      refine zcall_i (va_runV (As := [.int x3]) (rest := []) ⟨hx, hb, hml, hown, hts⟩ (qX4_isKeeper l D E KL kc on rw rd ft tr la mo on.2.1 hj L N _ x3 _ hu_8) (cwV 1 hts (zgV k2_212 k2_170 k2_171 k0_6 k2_172) rfl rfl rfl (by decide +kernel) ⟨Nat.le_of_ble_eq_true rfl, Nat.le_of_ble_eq_true rfl⟩) (zpv hE hS hA hK hP hD hrv_7) rfl rfl hl.1 rfl (lv_room (Nat.le_of_ble_eq_true rfl)) dX11_tell_27 ⟨Nat.zero_le _, Nat.zero_le _⟩) hD hS hA (fun H locs hP hD hS => ?_)
      refine lv_if_eq (tgt := 38) hx hb dX11_tell_30 (by decide) (fun c_9 => ?_) (fun c_9 => ?_)
      · have hF := zit c_9 hF
        refine lv_ldc (own := RX11) (v := -1000001) hx hb hown (zh hts k1_13) dX11_tell_38 ?_
        obtain rfl := Option.some.inj hF
        exact hend _ _ _ _ hP hD hS dX11_tell_40
      · have hF := zif c_9 hF
        refine lv_iload_n hx hb dX11_tell_33 rfl (lv_at hl 1 rfl) ?_
        refine lv_iload_n hx hb dX11_tell_34 rfl (lv_at hl 3 rfl) ?_
        refine lv_icmp_ne (tgt := 41) hx hb dX11_tell_35 (by decide) (fun c_10 => ?_) (fun c_10 => ?_)
        · have hF := zif c_10 hF
          refine lv_aload_n hx hb dX11_tell_41 rfl (lv_at hl 0 rfl) ?_
          refine va_get (D := D) (ci := 10) (v := .ref (E.1 (13 + 11 * on.2.1))) (C := RX11) (T := TX11) (N := 9) hx hb hts (zi iX11) hown hK hP 0 (zg_on _ _ _ _ _ _ _ _ _ _) rfl 6 (by decide) (zh hts k0_221) (fun _ h9 => h9) rfl dX11_tell_42 ?_
          refine lv_iload_n hx hb dX11_tell_45 rfl (lv_at hl 1 rfl) ?_
          refine lv_iload_n hx hb dX11_tell_46 rfl (lv_at hl 2 rfl) ?_
          have hrv_11 := (va_recv hK hP (ci := 3) (q0 := 13 + 11 * on.2.1) rfl (zg_L _ _ _ _ _ _ _ _ _ _ hj _))
          obtain ⟨u_12, hu_12, hF⟩ := zbd hF
          refine zcall_i (va_runV (As := [.int x1, .int x2]) (rest := []) ⟨hx, hb, hml, hown, hts⟩ (qX4_countOf l D E KL kc on rw rd ft tr la mo on.2.1 hj L N _ x1 x2 _ hu_12) (cwV 2 hts (zgV k2_214 k2_134 k2_135 k0_6 k2_136) rfl rfl rfl (by decide +kernel) ⟨Nat.le_of_ble_eq_true rfl, Nat.le_of_ble_eq_true rfl⟩) (zpv hE hS hA hK hP hD hrv_11) rfl rfl hl.1 rfl (lv_room (Nat.le_of_ble_eq_true rfl)) dX11_tell_47 ⟨Nat.zero_le _, Nat.zero_le _⟩) hD hS hA (fun H locs hP hD hS => ?_)
          refine lv_iconst (v := 1) hx hb dX11_tell_50 (by decide) ?_
          refine lv_icmp_ge (tgt := 57) hx hb dX11_tell_51 (by decide) (fun c_13 => ?_) (fun c_13 => ?_)
          · have hF := zit c_13 hF
            refine lv_aload_n hx hb dX11_tell_57 rfl (lv_at hl 0 rfl) ?_
            refine va_get (D := D) (ci := 10) (v := .ref (E.1 (13 + 11 * on.2.1))) (C := RX11) (T := TX11) (N := 9) hx hb hts (zi iX11) hown hK hP 0 (zg_on _ _ _ _ _ _ _ _ _ _) rfl 6 (by decide) (zh hts k0_221) (fun _ h9 => h9) rfl dX11_tell_58 ?_
            refine lv_iload_n hx hb dX11_tell_61 rfl (lv_at hl 3 rfl) ?_
            refine lv_iload_n hx hb dX11_tell_62 rfl (lv_at hl 2 rfl) ?_
            have hrv_14 := (va_recv hK hP (ci := 3) (q0 := 13 + 11 * on.2.1) rfl (zg_L _ _ _ _ _ _ _ _ _ _ hj _))
            obtain ⟨u_15, hu_15, hF⟩ := zbd hF
            refine zcall_i (va_runV (As := [.int x3, .int x2]) (rest := []) ⟨hx, hb, hml, hown, hts⟩ (qX4_countOf l D E KL kc on rw rd ft tr la mo on.2.1 hj L N _ x3 x2 _ hu_15) (cwV 2 hts (zgV k2_214 k2_134 k2_135 k0_6 k2_136) rfl rfl rfl (by decide +kernel) ⟨Nat.le_of_ble_eq_true rfl, Nat.le_of_ble_eq_true rfl⟩) (zpv hE hS hA hK hP hD hrv_14) rfl rfl hl.1 rfl (lv_room (Nat.le_of_ble_eq_true rfl)) dX11_tell_63 ⟨Nat.zero_le _, Nat.zero_le _⟩) hD hS hA (fun H locs hP hD hS => ?_)
            refine lv_bipush (v := 9) hx hb dX11_tell_66 (by decide) ?_
            refine lv_icmp_lt (tgt := 74) hx hb dX11_tell_68 (by decide) (fun c_16 => ?_) (fun c_16 => ?_)
            · have hF := zit c_16 hF
              refine lv_aload_n hx hb dX11_tell_74 rfl (lv_at hl 0 rfl) ?_
              refine va_get (D := D) (ci := 10) (v := .ref (E.1 (13 + 11 * on.2.1))) (C := RX11) (T := TX11) (N := 9) hx hb hts (zi iX11) hown hK hP 0 (zg_on _ _ _ _ _ _ _ _ _ _) rfl 6 (by decide) (zh hts k0_221) (fun _ h9 => h9) rfl dX11_tell_75 ?_
              refine lv_iload_n hx hb dX11_tell_78 rfl (lv_at hl 3 rfl) ?_
              refine lv_iload_n hx hb dX11_tell_79 rfl (lv_at hl 2 rfl) ?_
              have hrv_17 := (va_recv hK hP (ci := 3) (q0 := 13 + 11 * on.2.1) rfl (zg_L _ _ _ _ _ _ _ _ _ _ hj _))
              obtain ⟨u_18, hu_18, hF⟩ := zbd hF
              refine zcall_i (va_runV (As := [.int x3, .int x2]) (rest := []) ⟨hx, hb, hml, hown, hts⟩ (qX4_addOne l D E KL kc on rw rd ft tr la mo on.2.1 hj L N _ x3 x2 _ hu_18) (cwV 2 hts (zgV k2_215 k2_216 k2_217 k0_6 k2_218) rfl rfl rfl (by decide +kernel) ⟨Nat.le_of_ble_eq_true rfl, Nat.le_of_ble_eq_true rfl⟩) (zpv hE hS hA hK hP hD hrv_17) rfl rfl hl.1 rfl (lv_room (Nat.le_of_ble_eq_true rfl)) dX11_tell_80 ⟨Nat.zero_le _, Nat.zero_le _⟩) hD hS hA (fun H locs hP hD hS => ?_)
              obtain rfl := Option.some.inj hF
              exact hend _ _ _ _ hP hD hS dX11_tell_83
            · have hF := zif c_16 hF
              refine lv_ldc (own := RX11) (v := -1000003) hx hb hown (zh hts k1_90) dX11_tell_71 ?_
              obtain rfl := Option.some.inj hF
              exact hend _ _ _ _ hP hD hS dX11_tell_73
          · have hF := zif c_13 hF
            refine lv_ldc (own := RX11) (v := -1000002) hx hb hown (zh hts k2_104) dX11_tell_54 ?_
            obtain rfl := Option.some.inj hF
            exact hend _ _ _ _ hP hD hS dX11_tell_56
        · have hF := zit c_10 hF
          refine lv_ldc (own := RX11) (v := -1000001) hx hb hown (zh hts k1_13) dX11_tell_38 ?_
          obtain rfl := Option.some.inj hF
          exact hend _ _ _ _ hP hD hS dX11_tell_40
def fX11_keeper (N : Nat) (L : zLS) (x1 : Int32) (x2 : Int32) : Option Int32 :=
  (fX4_isKeeper N L x1).bind fun u_2 =>
  if u_2 = 0 then
    some (-1000001 : Int32)
  else
    if x2 = 0 then
      (fX4_earnedBy N L x1).bind fun u_6 =>
      some u_6
    else if x2 = 1 then
      (fX4_piecesOf N L x1).bind fun u_9 =>
      some u_9
    else if x2 = 2 then
      (fX4_soldBy N L x1).bind fun u_12 =>
      some u_12
    else 
      if x2 < (10 : Int32) then
        some (-1000001 : Int32)
      else
        (fX4_isPiece N L (x2 - (10 : Int32))).bind fun u_15 =>
        if u_15 = 0 then
          some (-1000001 : Int32)
        else
          (fX4_countOf N L x1 (x2 - (10 : Int32))).bind fun u_18 =>
          some u_18
set_option maxHeartbeats 4000000 in
set_option maxRecDepth 100000 in
theorem qX11_keeper (l : Launch) (D : va_G) (E : zE) (KL : List Nat) (kc : Nat → zKC) (on : zNS) (rw rd ft tr : zOS) (la : Nat → zLS) (mo : zMS) (hj : on.2.1 < 5) (L : zLS) (N sz : Nat) (x1 : Int32) (x2 : Int32) (out : Int32) (hF : fX11_keeper N L x1 x2 = some out) : zCi l yX11_keeper zwX11_keeper ({ frames := 2, cells := 0, slots := 0, locals := 46 }) [.ref (E.1 0), .int x1, .int x2] D E sz (zW E KL kc on rw rd ft tr (va_up la on.2.1 L) mo) (zW E KL kc on rw rd ft tr (va_up la on.2.1 L) mo) out 0 0 := by
  refine zent_i (cc := cX11_keeper) (nL := 3) (by decide) rfl (Nat.le_of_ble_eq_true rfl) ?_
  intro p e s m args below meth c Q A hx hb hml hown hts hA hK hP hD hS hE ls hl hend
  have hown : s.vm.findClass RX11 = some m.cls := hown
  have hl : lv_has ls 3 [(0, .ref (E.1 0)), (1, .int x1), (2, .int x2)] := hl
  rw [fX11_keeper] at hF
  refine lv_aload_n hx hb dX11_keeper_0 rfl (lv_at hl 0 rfl) ?_
  refine va_get (D := D) (ci := 10) (v := .ref (E.1 (13 + 11 * on.2.1))) (C := RX11) (T := TX11) (N := 9) hx hb hts (zi iX11) hown hK hP 0 (zg_on _ _ _ _ _ _ _ _ _ _) rfl 6 (by decide) (zh hts k0_221) (fun _ h9 => h9) rfl dX11_keeper_1 ?_
  refine lv_iload_n hx hb dX11_keeper_4 rfl (lv_at hl 1 rfl) ?_
  have hrv_1 := (va_recv hK hP (ci := 3) (q0 := 13 + 11 * on.2.1) rfl (zg_L _ _ _ _ _ _ _ _ _ _ hj _))
  obtain ⟨u_2, hu_2, hF⟩ := zbd hF
  refine zcall_i (va_runV (As := [.int x1]) (rest := []) ⟨hx, hb, hml, hown, hts⟩ (qX4_isKeeper l D E KL kc on rw rd ft tr la mo on.2.1 hj L N _ x1 _ hu_2) (cwV 1 hts (zgV k2_212 k2_170 k2_171 k0_6 k2_172) rfl rfl rfl (by decide +kernel) ⟨Nat.le_of_ble_eq_true rfl, Nat.le_of_ble_eq_true rfl⟩) (zpv hE hS hA hK hP hD hrv_1) rfl rfl hl.1 rfl (lv_room (Nat.le_of_ble_eq_true rfl)) dX11_keeper_5 ⟨Nat.zero_le _, Nat.zero_le _⟩) hD hS hA (fun H locs hP hD hS => ?_)
  refine lv_if_ne (tgt := 14) hx hb dX11_keeper_8 (by decide) (fun c_3 => ?_) (fun c_3 => ?_)
  · have hF := zif c_3 hF
    refine lv_iload_n hx hb dX11_keeper_14 rfl (lv_at hl 2 rfl) ?_
    by_cases c_4 : x2 = 0
    · have hF := zit c_4 hF
      refine lv_tableIn (off := 25) (tgt := 40) hx hb dX11_keeper_15 (by rw [c_4]; decide) (by rw [c_4]; decide) (by rw [c_4]; decide) (by decide) ?_
      refine lv_aload_n hx hb dX11_keeper_40 rfl (lv_at hl 0 rfl) ?_
      refine va_get (D := D) (ci := 10) (v := .ref (E.1 (13 + 11 * on.2.1))) (C := RX11) (T := TX11) (N := 9) hx hb hts (zi iX11) hown hK hP 0 (zg_on _ _ _ _ _ _ _ _ _ _) rfl 6 (by decide) (zh hts k0_221) (fun _ h9 => h9) rfl dX11_keeper_41 ?_
      refine lv_iload_n hx hb dX11_keeper_44 rfl (lv_at hl 1 rfl) ?_
      have hrv_5 := (va_recv hK hP (ci := 3) (q0 := 13 + 11 * on.2.1) rfl (zg_L _ _ _ _ _ _ _ _ _ _ hj _))
      obtain ⟨u_6, hu_6, hF⟩ := zbd hF
      refine zcall_i (va_runV (As := [.int x1]) (rest := []) ⟨hx, hb, hml, hown, hts⟩ (qX4_earnedBy l D E KL kc on rw rd ft tr la mo on.2.1 hj L N _ x1 _ hu_6) (cwV 1 hts (zgV k2_223 k2_224 k2_225 k0_6 k2_226) rfl rfl rfl (by decide +kernel) ⟨Nat.le_of_ble_eq_true rfl, Nat.le_of_ble_eq_true rfl⟩) (zpv hE hS hA hK hP hD hrv_5) rfl rfl hl.1 rfl (lv_room (Nat.le_of_ble_eq_true rfl)) dX11_keeper_45 ⟨Nat.zero_le _, Nat.zero_le _⟩) hD hS hA (fun H locs hP hD hS => ?_)
      obtain rfl := Option.some.inj hF
      exact hend _ _ _ _ hP hD hS dX11_keeper_48
    · have hF := zif c_4 hF
      by_cases c_7 : x2 = 1
      · have hF := zit c_7 hF
        refine lv_tableIn (off := 34) (tgt := 49) hx hb dX11_keeper_15 (by rw [c_7]; decide) (by rw [c_7]; decide) (by rw [c_7]; decide) (by decide) ?_
        refine lv_aload_n hx hb dX11_keeper_49 rfl (lv_at hl 0 rfl) ?_
        refine va_get (D := D) (ci := 10) (v := .ref (E.1 (13 + 11 * on.2.1))) (C := RX11) (T := TX11) (N := 9) hx hb hts (zi iX11) hown hK hP 0 (zg_on _ _ _ _ _ _ _ _ _ _) rfl 6 (by decide) (zh hts k0_221) (fun _ h9 => h9) rfl dX11_keeper_50 ?_
        refine lv_iload_n hx hb dX11_keeper_53 rfl (lv_at hl 1 rfl) ?_
        have hrv_8 := (va_recv hK hP (ci := 3) (q0 := 13 + 11 * on.2.1) rfl (zg_L _ _ _ _ _ _ _ _ _ _ hj _))
        obtain ⟨u_9, hu_9, hF⟩ := zbd hF
        refine zcall_i (va_runV (As := [.int x1]) (rest := []) ⟨hx, hb, hml, hown, hts⟩ (qX4_piecesOf l D E KL kc on rw rd ft tr la mo on.2.1 hj L N _ x1 _ hu_9) (cwV 1 hts (zgV k2_227 k2_228 k2_229 k0_6 k2_230) rfl rfl rfl (by decide +kernel) ⟨Nat.le_of_ble_eq_true rfl, Nat.le_of_ble_eq_true rfl⟩) (zpv hE hS hA hK hP hD hrv_8) rfl rfl hl.1 rfl (lv_room (Nat.le_of_ble_eq_true rfl)) dX11_keeper_54 ⟨Nat.zero_le _, Nat.zero_le _⟩) hD hS hA (fun H locs hP hD hS => ?_)
        obtain rfl := Option.some.inj hF
        exact hend _ _ _ _ hP hD hS dX11_keeper_57
      · have hF := zif c_7 hF
        by_cases c_10 : x2 = 2
        · have hF := zit c_10 hF
          refine lv_tableIn (off := 43) (tgt := 58) hx hb dX11_keeper_15 (by rw [c_10]; decide) (by rw [c_10]; decide) (by rw [c_10]; decide) (by decide) ?_
          refine lv_aload_n hx hb dX11_keeper_58 rfl (lv_at hl 0 rfl) ?_
          refine va_get (D := D) (ci := 10) (v := .ref (E.1 (13 + 11 * on.2.1))) (C := RX11) (T := TX11) (N := 9) hx hb hts (zi iX11) hown hK hP 0 (zg_on _ _ _ _ _ _ _ _ _ _) rfl 6 (by decide) (zh hts k0_221) (fun _ h9 => h9) rfl dX11_keeper_59 ?_
          refine lv_iload_n hx hb dX11_keeper_62 rfl (lv_at hl 1 rfl) ?_
          have hrv_11 := (va_recv hK hP (ci := 3) (q0 := 13 + 11 * on.2.1) rfl (zg_L _ _ _ _ _ _ _ _ _ _ hj _))
          obtain ⟨u_12, hu_12, hF⟩ := zbd hF
          refine zcall_i (va_runV (As := [.int x1]) (rest := []) ⟨hx, hb, hml, hown, hts⟩ (qX4_soldBy l D E KL kc on rw rd ft tr la mo on.2.1 hj L N _ x1 _ hu_12) (cwV 1 hts (zgV k2_231 k2_232 k2_233 k0_6 k2_234) rfl rfl rfl (by decide +kernel) ⟨Nat.le_of_ble_eq_true rfl, Nat.le_of_ble_eq_true rfl⟩) (zpv hE hS hA hK hP hD hrv_11) rfl rfl hl.1 rfl (lv_room (Nat.le_of_ble_eq_true rfl)) dX11_keeper_63 ⟨Nat.zero_le _, Nat.zero_le _⟩) hD hS hA (fun H locs hP hD hS => ?_)
          obtain rfl := Option.some.inj hF
          exact hend _ _ _ _ hP hD hS dX11_keeper_66
        · have hF := zif c_10 hF
          refine lv_tableOut (tgt := 67) hx hb dX11_keeper_15 (ztab_0_2 c_4 c_7 c_10) (by decide) ?_
          refine lv_iload_n hx hb dX11_keeper_67 rfl (lv_at hl 2 rfl) ?_
          refine lv_bipush (v := 10) hx hb dX11_keeper_68 (by decide) ?_
          refine lv_icmp_lt (tgt := 102) hx hb dX11_keeper_70 (by decide) (fun c_13 => ?_) (fun c_13 => ?_)
          · have hF := zit c_13 hF
            refine lv_ldc (own := RX11) (v := -1000001) hx hb hown (zh hts k1_13) dX11_keeper_102 ?_
            obtain rfl := Option.some.inj hF
            exact hend _ _ _ _ hP hD hS dX11_keeper_104
          · have hF := zif c_13 hF
            refine lv_aload_n hx hb dX11_keeper_73 rfl (lv_at hl 0 rfl) ?_
            refine va_get (D := D) (ci := 10) (v := .ref (E.1 (13 + 11 * on.2.1))) (C := RX11) (T := TX11) (N := 9) hx hb hts (zi iX11) hown hK hP 0 (zg_on _ _ _ _ _ _ _ _ _ _) rfl 6 (by decide) (zh hts k0_221) (fun _ h9 => h9) rfl dX11_keeper_74 ?_
            refine lv_iload_n hx hb dX11_keeper_77 rfl (lv_at hl 2 rfl) ?_
            refine lv_bipush (v := 10) hx hb dX11_keeper_78 (by decide) ?_
            refine lv_isub hx hb dX11_keeper_80 ?_
            have hrv_14 := (va_recv hK hP (ci := 3) (q0 := 13 + 11 * on.2.1) rfl (zg_L _ _ _ _ _ _ _ _ _ _ hj _))
            obtain ⟨u_15, hu_15, hF⟩ := zbd hF
            refine zcall_i (va_runV (As := [.int (x2 - (10 : Int32))]) (rest := []) ⟨hx, hb, hml, hown, hts⟩ (qX4_isPiece l D E KL kc on rw rd ft tr la mo on.2.1 hj L N _ (x2 - (10 : Int32)) _ hu_15) (cwV 1 hts (zgV k2_213 k2_174 k2_175 k0_6 k2_176) rfl rfl rfl (by decide +kernel) ⟨Nat.le_of_ble_eq_true rfl, Nat.le_of_ble_eq_true rfl⟩) (zpv hE hS hA hK hP hD hrv_14) rfl rfl hl.1 rfl (lv_room (Nat.le_of_ble_eq_true rfl)) dX11_keeper_81 ⟨Nat.zero_le _, Nat.zero_le _⟩) hD hS hA (fun H locs hP hD hS => ?_)
            refine lv_if_eq (tgt := 102) hx hb dX11_keeper_84 (by decide) (fun c_16 => ?_) (fun c_16 => ?_)
            · have hF := zit c_16 hF
              refine lv_ldc (own := RX11) (v := -1000001) hx hb hown (zh hts k1_13) dX11_keeper_102 ?_
              obtain rfl := Option.some.inj hF
              exact hend _ _ _ _ hP hD hS dX11_keeper_104
            · have hF := zif c_16 hF
              refine lv_aload_n hx hb dX11_keeper_87 rfl (lv_at hl 0 rfl) ?_
              refine va_get (D := D) (ci := 10) (v := .ref (E.1 (13 + 11 * on.2.1))) (C := RX11) (T := TX11) (N := 9) hx hb hts (zi iX11) hown hK hP 0 (zg_on _ _ _ _ _ _ _ _ _ _) rfl 6 (by decide) (zh hts k0_221) (fun _ h9 => h9) rfl dX11_keeper_88 ?_
              refine lv_iload_n hx hb dX11_keeper_91 rfl (lv_at hl 1 rfl) ?_
              refine lv_iload_n hx hb dX11_keeper_92 rfl (lv_at hl 2 rfl) ?_
              refine lv_bipush (v := 10) hx hb dX11_keeper_93 (by decide) ?_
              refine lv_isub hx hb dX11_keeper_95 ?_
              have hrv_17 := (va_recv hK hP (ci := 3) (q0 := 13 + 11 * on.2.1) rfl (zg_L _ _ _ _ _ _ _ _ _ _ hj _))
              obtain ⟨u_18, hu_18, hF⟩ := zbd hF
              refine zcall_i (va_runV (As := [.int x1, .int (x2 - (10 : Int32))]) (rest := []) ⟨hx, hb, hml, hown, hts⟩ (qX4_countOf l D E KL kc on rw rd ft tr la mo on.2.1 hj L N _ x1 (x2 - (10 : Int32)) _ hu_18) (cwV 2 hts (zgV k2_214 k2_134 k2_135 k0_6 k2_136) rfl rfl rfl (by decide +kernel) ⟨Nat.le_of_ble_eq_true rfl, Nat.le_of_ble_eq_true rfl⟩) (zpv hE hS hA hK hP hD hrv_17) rfl rfl hl.1 rfl (lv_room (Nat.le_of_ble_eq_true rfl)) dX11_keeper_96 ⟨Nat.zero_le _, Nat.zero_le _⟩) hD hS hA (fun H locs hP hD hS => ?_)
              refine lv_goto (tgt := 104) hx hb dX11_keeper_99 (by decide) ?_
              obtain rfl := Option.some.inj hF
              exact hend _ _ _ _ hP hD hS dX11_keeper_104
  · have hF := zit c_3 hF
    refine lv_ldc (own := RX11) (v := -1000001) hx hb hown (zh hts k1_13) dX11_keeper_11 ?_
    obtain rfl := Option.some.inj hF
    exact hend _ _ _ _ hP hD hS dX11_keeper_13
def fX11_kind (N : Nat) (KL : List Nat) (kc : Nat → zKC) (L : zLS) (x1 : Int32) : Option Int32 :=
  (fX4_keeperAt N KL kc L x1).bind fun u_2 =>
  match u_2 with
  | none =>
    some (-1000001 : Int32)
  | some a_3 =>
    if ¬ zkd KL kc a_3 then none else
    if (kc a_3).1 = 0 then
      (fX0_kindTold N a_3).bind fun u_6 =>
      some u_6
    else if (kc a_3).1 = 1 then
      (fX1_kindTold N a_3).bind fun u_9 =>
      some u_9
    else if (kc a_3).1 = 4 then
      (fX5_kindTold N a_3).bind fun u_12 =>
      some u_12
    else if (kc a_3).1 = 7 then
      (fX8_kindTold N a_3).bind fun u_15 =>
      some u_15
    else if (kc a_3).1 = 9 then
      (fX10_kindTold N a_3).bind fun u_18 =>
      some u_18
    else none
set_option maxHeartbeats 4000000 in
set_option maxRecDepth 100000 in
theorem qX11_kind (l : Launch) (D : va_G) (E : zE) (KL : List Nat) (kc : Nat → zKC) (on : zNS) (rw rd ft tr : zOS) (la : Nat → zLS) (mo : zMS) (hj : on.2.1 < 5) (L : zLS) (N sz : Nat) (x1 : Int32) (out : Int32) (hF : fX11_kind N KL kc L x1 = some out) : zCi l yX11_kind zwX11_kind ({ frames := 1, cells := 0, slots := 0, locals := 21 }) [.ref (E.1 0), .int x1] D E sz (zW E KL kc on rw rd ft tr (va_up la on.2.1 L) mo) (zW E KL kc on rw rd ft tr (va_up la on.2.1 L) mo) out 0 0 := by
  refine zent_i (cc := cX11_kind) (nL := 3) (by decide) rfl (Nat.le_of_ble_eq_true rfl) ?_
  intro p e s m args below meth c Q A hx hb hml hown hts hA hK hP hD hS hE ls hl hend
  have hown : s.vm.findClass RX11 = some m.cls := hown
  have hl : lv_has ls 3 [(0, .ref (E.1 0)), (1, .int x1)] := hl
  rw [fX11_kind] at hF
  refine lv_aload_n hx hb dX11_kind_0 rfl (lv_at hl 0 rfl) ?_
  refine va_get (D := D) (ci := 10) (v := .ref (E.1 (13 + 11 * on.2.1))) (C := RX11) (T := TX11) (N := 9) hx hb hts (zi iX11) hown hK hP 0 (zg_on _ _ _ _ _ _ _ _ _ _) rfl 6 (by decide) (zh hts k0_221) (fun _ h9 => h9) rfl dX11_kind_1 ?_
  refine lv_iload_n hx hb dX11_kind_4 rfl (lv_at hl 1 rfl) ?_
  have hrv_1 := (va_recv hK hP (ci := 3) (q0 := 13 + 11 * on.2.1) rfl (zg_L _ _ _ _ _ _ _ _ _ _ hj _))
  obtain ⟨u_2, hu_2, hF⟩ := zbd hF
  refine zcall_q (va_runV (As := [.int x1]) (rest := []) ⟨hx, hb, hml, hown, hts⟩ (qX4_keeperAt l D E KL kc on rw rd ft tr la mo on.2.1 hj L N _ x1 _ hu_2) (cwV 1 hts (zgV k3_178 k2_84 k2_85 k0_6 k2_86) rfl rfl rfl (by decide +kernel) ⟨Nat.le_of_ble_eq_true rfl, Nat.le_of_ble_eq_true rfl⟩) (zpv hE hS hA hK hP hD hrv_1) rfl rfl hl.1 rfl (lv_room (Nat.le_of_ble_eq_true rfl)) dX11_kind_5 ⟨Nat.zero_le _, Nat.zero_le _⟩) hD hS hA (fun H locs hP hD hS => ?_)
  cases u_2 with
  | none =>
    refine lv_astore_nN (lv' := [(2, .null), (0, .ref (E.1 0)), (1, .int x1)]) hx hb dX11_kind_8 rfl hl (by decide) rfl (fun ls hl => ?_)
    refine lv_aload_nN hx hb dX11_kind_9 rfl (lv_at hl 0 rfl) ?_
    refine lv_ifnonnullN hx hb dX11_kind_10 ?_
    refine lv_ldc (own := RX11) (v := -1000001) hx hb hown (zh hts k1_13) dX11_kind_13 ?_
    refine lv_goto (tgt := 22) hx hb dX11_kind_15 (by decide) ?_
    obtain rfl := Option.some.inj hF
    exact hend _ _ _ _ hP hD hS dX11_kind_22
  | some a_3 =>
    obtain ⟨k_4, hF⟩ := zgd hF
    have k_4 := Decidable.not_not.mp k_4
    have km_3 := k_4.1
    have k_4 := k_4.2
    refine lv_astore_n (lv' := [(2, .ref a_3), (0, .ref (E.1 0)), (1, .int x1)]) hx hb dX11_kind_8 rfl hl (by decide) rfl (fun ls hl => ?_)
    refine lv_aload_n hx hb dX11_kind_9 rfl (lv_at hl 0 rfl) ?_
    refine lv_ifnonnull (tgt := 18) hx hb dX11_kind_10 (by decide) ?_
    refine lv_aload_n hx hb dX11_kind_18 rfl (lv_at hl 0 rfl) ?_
    by_cases kk_5 : (kc a_3).1 = 0
    · have hF := zit kk_5 hF
      obtain ⟨u_6, hu_6, hF⟩ := zbd hF
      obtain ⟨q_7, hq_7⟩ := zg_K E KL kc on rw rd ft tr (va_up la on.2.1 L) mo km_3 kk_5
      refine zcall_i (va_runU (As := []) (rest := []) ⟨hx, hb, hml, hown, hts⟩ (qX0_kindTold l D E KL kc on rw rd ft tr (va_up la on.2.1 L) mo a_3 km_3 (by omega) N _ _ hu_6) (va_cwA 0 hts (zgU k3_179 k3_181 k3_182 k3_183 k0_17 k3_184) rfl rfl rfl (hE.2.2.2.2.2.2.2.2.2.2.1) (by decide +kernel) ⟨Nat.le_of_ble_eq_true rfl, Nat.le_of_ble_eq_true rfl⟩) (zpv hE hS hA hK hP hD (va_recv hK hP (ci := 0) (q0 := q_7) rfl hq_7)) rfl rfl hl.1 rfl (lv_room (Nat.le_of_ble_eq_true rfl)) dX11_kind_19 ⟨Nat.zero_le _, Nat.zero_le _⟩) hD hS hA (fun H locs hP hD hS => ?_)
      obtain rfl := Option.some.inj hF
      exact hend _ _ _ _ hP hD hS dX11_kind_22
    · have hF := zif kk_5 hF
      by_cases kk_8 : (kc a_3).1 = 1
      · have hF := zit kk_8 hF
        obtain ⟨u_9, hu_9, hF⟩ := zbd hF
        obtain ⟨q_10, hq_10⟩ := zg_K E KL kc on rw rd ft tr (va_up la on.2.1 L) mo km_3 kk_8
        refine zcall_i (va_runU (As := []) (rest := []) ⟨hx, hb, hml, hown, hts⟩ (qX1_kindTold l D E KL kc on rw rd ft tr (va_up la on.2.1 L) mo a_3 km_3 (by omega) N _ _ hu_9) (va_cwA 0 hts (zgU k3_179 k3_181 k3_185 k3_186 k0_19 k3_187) rfl rfl rfl (hE.2.2.2.2.2.2.2.2.2.2.1) (by decide +kernel) ⟨Nat.le_of_ble_eq_true rfl, Nat.le_of_ble_eq_true rfl⟩) (zpv hE hS hA hK hP hD (va_recv hK hP (ci := 1) (q0 := q_10) rfl hq_10)) rfl rfl hl.1 rfl (lv_room (Nat.le_of_ble_eq_true rfl)) dX11_kind_19 ⟨Nat.zero_le _, Nat.zero_le _⟩) hD hS hA (fun H locs hP hD hS => ?_)
        obtain rfl := Option.some.inj hF
        exact hend _ _ _ _ hP hD hS dX11_kind_22
      · have hF := zif kk_8 hF
        by_cases kk_11 : (kc a_3).1 = 4
        · have hF := zit kk_11 hF
          obtain ⟨u_12, hu_12, hF⟩ := zbd hF
          obtain ⟨q_13, hq_13⟩ := zg_K E KL kc on rw rd ft tr (va_up la on.2.1 L) mo km_3 kk_11
          refine zcall_i (va_runU (As := []) (rest := []) ⟨hx, hb, hml, hown, hts⟩ (qX5_kindTold l D E KL kc on rw rd ft tr (va_up la on.2.1 L) mo a_3 km_3 (by omega) N _ _ hu_12) (va_cwA 0 hts (zgU k3_179 k3_181 k3_188 k3_189 k0_16 k3_190) rfl rfl rfl (hE.2.2.2.2.2.2.2.2.2.2.1) (by decide +kernel) ⟨Nat.le_of_ble_eq_true rfl, Nat.le_of_ble_eq_true rfl⟩) (zpv hE hS hA hK hP hD (va_recv hK hP (ci := 4) (q0 := q_13) rfl hq_13)) rfl rfl hl.1 rfl (lv_room (Nat.le_of_ble_eq_true rfl)) dX11_kind_19 ⟨Nat.zero_le _, Nat.zero_le _⟩) hD hS hA (fun H locs hP hD hS => ?_)
          obtain rfl := Option.some.inj hF
          exact hend _ _ _ _ hP hD hS dX11_kind_22
        · have hF := zif kk_11 hF
          by_cases kk_14 : (kc a_3).1 = 7
          · have hF := zit kk_14 hF
            obtain ⟨u_15, hu_15, hF⟩ := zbd hF
            obtain ⟨q_16, hq_16⟩ := zg_K E KL kc on rw rd ft tr (va_up la on.2.1 L) mo km_3 kk_14
            refine zcall_i (va_runU (As := []) (rest := []) ⟨hx, hb, hml, hown, hts⟩ (qX8_kindTold l D E KL kc on rw rd ft tr (va_up la on.2.1 L) mo a_3 km_3 (by omega) N _ _ hu_15) (va_cwA 0 hts (zgU k3_179 k3_181 k3_191 k3_192 k0_20 k3_193) rfl rfl rfl (hE.2.2.2.2.2.2.2.2.2.2.1) (by decide +kernel) ⟨Nat.le_of_ble_eq_true rfl, Nat.le_of_ble_eq_true rfl⟩) (zpv hE hS hA hK hP hD (va_recv hK hP (ci := 7) (q0 := q_16) rfl hq_16)) rfl rfl hl.1 rfl (lv_room (Nat.le_of_ble_eq_true rfl)) dX11_kind_19 ⟨Nat.zero_le _, Nat.zero_le _⟩) hD hS hA (fun H locs hP hD hS => ?_)
            obtain rfl := Option.some.inj hF
            exact hend _ _ _ _ hP hD hS dX11_kind_22
          · have hF := zif kk_14 hF
            by_cases kk_17 : (kc a_3).1 = 9
            · have hF := zit kk_17 hF
              obtain ⟨u_18, hu_18, hF⟩ := zbd hF
              obtain ⟨q_19, hq_19⟩ := zg_K E KL kc on rw rd ft tr (va_up la on.2.1 L) mo km_3 kk_17
              refine zcall_i (va_runU (As := []) (rest := []) ⟨hx, hb, hml, hown, hts⟩ (qX10_kindTold l D E KL kc on rw rd ft tr (va_up la on.2.1 L) mo a_3 km_3 (by omega) N _ _ hu_18) (va_cwA 0 hts (zgU k3_179 k3_181 k3_194 k3_195 k0_18 k3_196) rfl rfl rfl (hE.2.2.2.2.2.2.2.2.2.2.1) (by decide +kernel) ⟨Nat.le_of_ble_eq_true rfl, Nat.le_of_ble_eq_true rfl⟩) (zpv hE hS hA hK hP hD (va_recv hK hP (ci := 9) (q0 := q_19) rfl hq_19)) rfl rfl hl.1 rfl (lv_room (Nat.le_of_ble_eq_true rfl)) dX11_kind_19 ⟨Nat.zero_le _, Nat.zero_le _⟩) hD hS hA (fun H locs hP hD hS => ?_)
              obtain rfl := Option.some.inj hF
              exact hend _ _ _ _ hP hD hS dX11_kind_22
            · have hF := zif kk_17 hF
              exact znone hF
def fX11_trace (N : Nat) (tr : zOS) (x1 : Int32) : Option Int32 :=
  (fX9_at N tr x1).bind fun u_1 =>
  some u_1
set_option maxHeartbeats 4000000 in
set_option maxRecDepth 100000 in
theorem qX11_trace (l : Launch) (D : va_G) (E : zE) (KL : List Nat) (kc : Nat → zKC) (on : zNS) (rw rd ft tr : zOS) (la : Nat → zLS) (mo : zMS) (N sz : Nat) (x1 : Int32) (out : Int32) (hF : fX11_trace N tr x1 = some out) : zCi l yX11_trace zwX11_trace ({ frames := 1, cells := 0, slots := 0, locals := 21 }) [.ref (E.1 0), .int x1] D E sz (zW E KL kc on rw rd ft tr la mo) (zW E KL kc on rw rd ft tr la mo) out 0 0 := by
  refine zent_i (cc := cX11_trace) (nL := 2) (by decide) rfl (Nat.le_of_ble_eq_true rfl) ?_
  intro p e s m args below meth c Q A hx hb hml hown hts hA hK hP hD hS hE ls hl hend
  have hown : s.vm.findClass RX11 = some m.cls := hown
  have hl : lv_has ls 2 [(0, .ref (E.1 0)), (1, .int x1)] := hl
  rw [fX11_trace] at hF
  refine lv_aload_n hx hb dX11_trace_0 rfl (lv_at hl 0 rfl) ?_
  refine va_get (D := D) (ci := 10) (v := .ref (E.1 11)) (C := RX11) (T := TX11) (N := 9) hx hb hts (zi iX11) hown hK hP 0 (zg_on _ _ _ _ _ _ _ _ _ _) rfl 3 (by decide) (zh hts k0_218) (fun _ h9 => h9) rfl dX11_trace_1 ?_
  refine lv_iload_n hx hb dX11_trace_4 rfl (lv_at hl 1 rfl) ?_
  obtain ⟨u_1, hu_1, hF⟩ := zbd hF
  refine zcall_i (va_runV (As := [.int x1]) (rest := []) ⟨hx, hb, hml, hown, hts⟩ (qX9_at l D E KL kc on rw rd ft tr la mo N _ x1 _ hu_1) (cwV 1 hts (zgV k4_43 k4_44 k4_45 k0_7 k4_46) rfl rfl rfl (by decide +kernel) ⟨Nat.le_of_ble_eq_true rfl, Nat.le_of_ble_eq_true rfl⟩) (zpv hE hS hA hK hP hD (va_recv hK hP (ci := 8) (q0 := 11) rfl (zg_tr _ _ _ _ _ _ _ _ _ _))) rfl rfl hl.1 rfl (lv_room (Nat.le_of_ble_eq_true rfl)) dX11_trace_5 ⟨Nat.zero_le _, Nat.zero_le _⟩) hD hS hA (fun H locs hP hD hS => ?_)
  obtain rfl := Option.some.inj hF
  exact hend _ _ _ _ hP hD hS dX11_trace_8
def fX11_count (N : Nat) (rw : zOS) (rd : zOS) (L : zLS) (x1 : Int32) : Option Int32 :=
  if x1 = 0 then
    (fX7_countThere N rw).bind fun u_2 =>
    some u_2
  else if x1 = 1 then
    some (L.1.1 6)
  else if x1 = 2 then
    some (L.1.1 7)
  else if x1 = 3 then
    some (L.1.1 2)
  else if x1 = 4 then
    some (L.1.1 8)
  else if x1 = 5 then
    some (rd.1 0)
  else if x1 = 6 then
    some (L.1.1 1)
  else if x1 = 7 then
    some (L.1.1 0)
  else 
    some (-1000001 : Int32)
set_option maxHeartbeats 4000000 in
set_option maxRecDepth 100000 in
theorem qX11_count (l : Launch) (D : va_G) (E : zE) (KL : List Nat) (kc : Nat → zKC) (on : zNS) (rw rd ft tr : zOS) (la : Nat → zLS) (mo : zMS) (hj : on.2.1 < 5) (L : zLS) (N sz : Nat) (x1 : Int32) (out : Int32) (hF : fX11_count N rw rd L x1 = some out) : zCi l yX11_count zwX11_count ({ frames := 1, cells := 0, slots := 0, locals := 22 }) [.ref (E.1 0), .int x1] D E sz (zW E KL kc on rw rd ft tr (va_up la on.2.1 L) mo) (zW E KL kc on rw rd ft tr (va_up la on.2.1 L) mo) out 0 0 := by
  refine zent_i (cc := cX11_count) (nL := 2) (by decide) rfl (Nat.le_of_ble_eq_true rfl) ?_
  intro p e s m args below meth c Q A hx hb hml hown hts hA hK hP hD hS hE ls hl hend
  have hown : s.vm.findClass RX11 = some m.cls := hown
  have hl : lv_has ls 2 [(0, .ref (E.1 0)), (1, .int x1)] := hl
  rw [fX11_count] at hF
  refine lv_iload_n hx hb dX11_count_0 rfl (lv_at hl 1 rfl) ?_
  by_cases c_1 : x1 = 0
  · have hF := zit c_1 hF
    refine lv_tableIn (off := 47) (tgt := 48) hx hb dX11_count_1 (by rw [c_1]; decide) (by rw [c_1]; decide) (by rw [c_1]; decide) (by decide) ?_
    refine lv_aload_n hx hb dX11_count_48 rfl (lv_at hl 0 rfl) ?_
    refine va_get (D := D) (ci := 10) (v := .ref (E.1 1)) (C := RX11) (T := TX11) (N := 9) hx hb hts (zi iX11) hown hK hP 0 (zg_on _ _ _ _ _ _ _ _ _ _) rfl 0 (by decide) (zh hts k0_215) (fun _ h9 => h9) rfl dX11_count_49 ?_
    obtain ⟨u_2, hu_2, hF⟩ := zbd hF
    refine zcall_i (va_runV (As := []) (rest := []) ⟨hx, hb, hml, hown, hts⟩ (qX7_countThere l D E KL kc on rw rd ft tr (va_up la on.2.1 L) mo N _ _ hu_2) (cwV 0 hts (zgV k4_52 k4_53 k4_54 k0_2 k4_55) rfl rfl rfl (by decide +kernel) ⟨Nat.le_of_ble_eq_true rfl, Nat.le_of_ble_eq_true rfl⟩) (zpv hE hS hA hK hP hD (va_recv hK hP (ci := 6) (q0 := 1) rfl (zg_rw _ _ _ _ _ _ _ _ _ _))) rfl rfl hl.1 rfl (lv_room (Nat.le_of_ble_eq_true rfl)) dX11_count_52 ⟨Nat.zero_le _, Nat.zero_le _⟩) hD hS hA (fun H locs hP hD hS => ?_)
    obtain rfl := Option.some.inj hF
    exact hend _ _ _ _ hP hD hS dX11_count_55
  · have hF := zif c_1 hF
    by_cases c_3 : x1 = 1
    · have hF := zit c_3 hF
      refine lv_tableIn (off := 55) (tgt := 56) hx hb dX11_count_1 (by rw [c_3]; decide) (by rw [c_3]; decide) (by rw [c_3]; decide) (by decide) ?_
      refine lv_aload_n hx hb dX11_count_56 rfl (lv_at hl 0 rfl) ?_
      refine va_get (D := D) (ci := 10) (v := .ref (E.1 (13 + 11 * on.2.1))) (C := RX11) (T := TX11) (N := 9) hx hb hts (zi iX11) hown hK hP 0 (zg_on _ _ _ _ _ _ _ _ _ _) rfl 6 (by decide) (zh hts k0_221) (fun _ h9 => h9) rfl dX11_count_57 ?_
      refine va_get (D := D) (ci := 3) (v := .int (L.1.1 6)) (C := RX4) (T := TX4) (N := 19) hx hb hts (zi iX4) hown hK hP (13 + 11 * on.2.1) (zg_L _ _ _ _ _ _ _ _ _ _ hj _) rfl 6 (by decide) (zh hts k0_118) (fun _ h9 => h9) rfl dX11_count_60 ?_
      obtain rfl := Option.some.inj hF
      exact hend _ _ _ _ hP hD hS dX11_count_63
    · have hF := zif c_3 hF
      by_cases c_4 : x1 = 2
      · have hF := zit c_4 hF
        refine lv_tableIn (off := 63) (tgt := 64) hx hb dX11_count_1 (by rw [c_4]; decide) (by rw [c_4]; decide) (by rw [c_4]; decide) (by decide) ?_
        refine lv_aload_n hx hb dX11_count_64 rfl (lv_at hl 0 rfl) ?_
        refine va_get (D := D) (ci := 10) (v := .ref (E.1 (13 + 11 * on.2.1))) (C := RX11) (T := TX11) (N := 9) hx hb hts (zi iX11) hown hK hP 0 (zg_on _ _ _ _ _ _ _ _ _ _) rfl 6 (by decide) (zh hts k0_221) (fun _ h9 => h9) rfl dX11_count_65 ?_
        refine va_get (D := D) (ci := 3) (v := .int (L.1.1 7)) (C := RX4) (T := TX4) (N := 19) hx hb hts (zi iX4) hown hK hP (13 + 11 * on.2.1) (zg_L _ _ _ _ _ _ _ _ _ _ hj _) rfl 7 (by decide) (zh hts k0_122) (fun _ h9 => h9) rfl dX11_count_68 ?_
        obtain rfl := Option.some.inj hF
        exact hend _ _ _ _ hP hD hS dX11_count_71
      · have hF := zif c_4 hF
        by_cases c_5 : x1 = 3
        · have hF := zit c_5 hF
          refine lv_tableIn (off := 71) (tgt := 72) hx hb dX11_count_1 (by rw [c_5]; decide) (by rw [c_5]; decide) (by rw [c_5]; decide) (by decide) ?_
          refine lv_aload_n hx hb dX11_count_72 rfl (lv_at hl 0 rfl) ?_
          refine va_get (D := D) (ci := 10) (v := .ref (E.1 (13 + 11 * on.2.1))) (C := RX11) (T := TX11) (N := 9) hx hb hts (zi iX11) hown hK hP 0 (zg_on _ _ _ _ _ _ _ _ _ _) rfl 6 (by decide) (zh hts k0_221) (fun _ h9 => h9) rfl dX11_count_73 ?_
          refine va_get (D := D) (ci := 3) (v := .int (L.1.1 2)) (C := RX4) (T := TX4) (N := 19) hx hb hts (zi iX4) hown hK hP (13 + 11 * on.2.1) (zg_L _ _ _ _ _ _ _ _ _ _ hj _) rfl 2 (by decide) (zh hts k0_107) (fun _ h9 => h9) rfl dX11_count_76 ?_
          obtain rfl := Option.some.inj hF
          exact hend _ _ _ _ hP hD hS dX11_count_79
        · have hF := zif c_5 hF
          by_cases c_6 : x1 = 4
          · have hF := zit c_6 hF
            refine lv_tableIn (off := 79) (tgt := 80) hx hb dX11_count_1 (by rw [c_6]; decide) (by rw [c_6]; decide) (by rw [c_6]; decide) (by decide) ?_
            refine lv_aload_n hx hb dX11_count_80 rfl (lv_at hl 0 rfl) ?_
            refine va_get (D := D) (ci := 10) (v := .ref (E.1 (13 + 11 * on.2.1))) (C := RX11) (T := TX11) (N := 9) hx hb hts (zi iX11) hown hK hP 0 (zg_on _ _ _ _ _ _ _ _ _ _) rfl 6 (by decide) (zh hts k0_221) (fun _ h9 => h9) rfl dX11_count_81 ?_
            refine va_get (D := D) (ci := 3) (v := .int (L.1.1 8)) (C := RX4) (T := TX4) (N := 19) hx hb hts (zi iX4) hown hK hP (13 + 11 * on.2.1) (zg_L _ _ _ _ _ _ _ _ _ _ hj _) rfl 8 (by decide) (zh hts k0_126) (fun _ h9 => h9) rfl dX11_count_84 ?_
            obtain rfl := Option.some.inj hF
            exact hend _ _ _ _ hP hD hS dX11_count_87
          · have hF := zif c_6 hF
            by_cases c_7 : x1 = 5
            · have hF := zit c_7 hF
              refine lv_tableIn (off := 87) (tgt := 88) hx hb dX11_count_1 (by rw [c_7]; decide) (by rw [c_7]; decide) (by rw [c_7]; decide) (by decide) ?_
              refine lv_aload_n hx hb dX11_count_88 rfl (lv_at hl 0 rfl) ?_
              refine va_get (D := D) (ci := 10) (v := .ref (E.1 5)) (C := RX11) (T := TX11) (N := 9) hx hb hts (zi iX11) hown hK hP 0 (zg_on _ _ _ _ _ _ _ _ _ _) rfl 1 (by decide) (zh hts k0_216) (fun _ h9 => h9) rfl dX11_count_89 ?_
              refine va_get (D := D) (ci := 5) (v := .int (rd.1 0)) (C := RX6) (T := TX6) (N := 8) hx hb hts (zi iX6) hown hK hP 5 (zg_rd _ _ _ _ _ _ _ _ _ _) rfl 0 (by decide) (zh hts k0_56) (fun _ h9 => h9) rfl dX11_count_92 ?_
              obtain rfl := Option.some.inj hF
              exact hend _ _ _ _ hP hD hS dX11_count_95
            · have hF := zif c_7 hF
              by_cases c_8 : x1 = 6
              · have hF := zit c_8 hF
                refine lv_tableIn (off := 95) (tgt := 96) hx hb dX11_count_1 (by rw [c_8]; decide) (by rw [c_8]; decide) (by rw [c_8]; decide) (by decide) ?_
                refine lv_aload_n hx hb dX11_count_96 rfl (lv_at hl 0 rfl) ?_
                refine va_get (D := D) (ci := 10) (v := .ref (E.1 (13 + 11 * on.2.1))) (C := RX11) (T := TX11) (N := 9) hx hb hts (zi iX11) hown hK hP 0 (zg_on _ _ _ _ _ _ _ _ _ _) rfl 6 (by decide) (zh hts k0_221) (fun _ h9 => h9) rfl dX11_count_97 ?_
                refine va_get (D := D) (ci := 3) (v := .int (L.1.1 1)) (C := RX4) (T := TX4) (N := 19) hx hb hts (zi iX4) hown hK hP (13 + 11 * on.2.1) (zg_L _ _ _ _ _ _ _ _ _ _ hj _) rfl 1 (by decide) (zh hts k0_105) (fun _ h9 => h9) rfl dX11_count_100 ?_
                obtain rfl := Option.some.inj hF
                exact hend _ _ _ _ hP hD hS dX11_count_103
              · have hF := zif c_8 hF
                by_cases c_9 : x1 = 7
                · have hF := zit c_9 hF
                  refine lv_tableIn (off := 103) (tgt := 104) hx hb dX11_count_1 (by rw [c_9]; decide) (by rw [c_9]; decide) (by rw [c_9]; decide) (by decide) ?_
                  refine lv_aload_n hx hb dX11_count_104 rfl (lv_at hl 0 rfl) ?_
                  refine va_get (D := D) (ci := 10) (v := .ref (E.1 (13 + 11 * on.2.1))) (C := RX11) (T := TX11) (N := 9) hx hb hts (zi iX11) hown hK hP 0 (zg_on _ _ _ _ _ _ _ _ _ _) rfl 6 (by decide) (zh hts k0_221) (fun _ h9 => h9) rfl dX11_count_105 ?_
                  refine va_get (D := D) (ci := 3) (v := .int (L.1.1 0)) (C := RX4) (T := TX4) (N := 19) hx hb hts (zi iX4) hown hK hP (13 + 11 * on.2.1) (zg_L _ _ _ _ _ _ _ _ _ _ hj _) rfl 0 (by decide) (zh hts k0_101) (fun _ h9 => h9) rfl dX11_count_108 ?_
                  obtain rfl := Option.some.inj hF
                  exact hend _ _ _ _ hP hD hS dX11_count_111
                · have hF := zif c_9 hF
                  refine lv_tableOut (tgt := 112) hx hb dX11_count_1 (ztab_0_7 c_1 c_3 c_4 c_5 c_6 c_7 c_8 c_9) (by decide) ?_
                  refine lv_ldc (own := RX11) (v := -1000001) hx hb hown (zh hts k1_13) dX11_count_112 ?_
                  obtain rfl := Option.some.inj hF
                  exact hend _ _ _ _ hP hD hS dX11_count_114
def fX11_status (N : Nat) (on : zNS) : Option Int32 :=
  some on.1
set_option maxHeartbeats 4000000 in
set_option maxRecDepth 100000 in
theorem qX11_status (l : Launch) (D : va_G) (E : zE) (KL : List Nat) (kc : Nat → zKC) (on : zNS) (rw rd ft tr : zOS) (la : Nat → zLS) (mo : zMS) (N sz : Nat)  (out : Int32) (hF : fX11_status N on = some out) : zCi l yX11_status zwX11_status ({ frames := 0, cells := 0, slots := 0, locals := 0 }) [.ref (E.1 0)] D E sz (zW E KL kc on rw rd ft tr la mo) (zW E KL kc on rw rd ft tr la mo) out 0 0 := by
  refine zent_i (cc := cX11_status) (nL := 1) (by decide) rfl (Nat.le_of_ble_eq_true rfl) ?_
  intro p e s m args below meth c Q A hx hb hml hown hts hA hK hP hD hS hE ls hl hend
  have hown : s.vm.findClass RX11 = some m.cls := hown
  have hl : lv_has ls 1 [(0, .ref (E.1 0))] := hl
  rw [fX11_status] at hF
  refine lv_aload_n hx hb dX11_status_0 rfl (lv_at hl 0 rfl) ?_
  refine va_get (D := D) (ci := 10) (v := .int on.1) (C := RX11) (T := TX11) (N := 9) hx hb hts (zi iX11) hown hK hP 0 (zg_on _ _ _ _ _ _ _ _ _ _) rfl 8 (by decide) (zh hts k0_223) (fun _ h9 => h9) rfl dX11_status_1 ?_
  obtain rfl := Option.some.inj hF
  exact hend _ _ _ _ hP hD hS dX11_status_4
def fX11_found (N : Nat) (on : zNS) (x1 : Int32) : Option (Int32 × zNS) :=
  some ((-1000010 : Int32) - x1, zNf on x1)
set_option maxHeartbeats 4000000 in
set_option maxRecDepth 100000 in
theorem qX11_found (l : Launch) (D : va_G) (E : zE) (KL : List Nat) (kc : Nat → zKC) (on : zNS) (rw rd ft tr : zOS) (la : Nat → zLS) (mo : zMS) (N sz : Nat) (x1 : Int32) (out : Int32 × zNS) (hF : fX11_found N on x1 = some out) : zCi l yX11_found zwX11_found ({ frames := 0, cells := 0, slots := 0, locals := 0 }) [.ref (E.1 0), .int x1] D E sz (zW E KL kc on rw rd ft tr la mo) (zW E KL kc out.2 rw rd ft tr la mo) out.1 0 0 := by
  refine zent_i (cc := cX11_found) (nL := 2) (by decide) rfl (Nat.le_of_ble_eq_true rfl) ?_
  intro p e s m args below meth c Q A hx hb hml hown hts hA hK hP hD hS hE ls hl hend
  have hown : s.vm.findClass RX11 = some m.cls := hown
  have hl : lv_has ls 2 [(0, .ref (E.1 0)), (1, .int x1)] := hl
  rw [fX11_found] at hF
  refine lv_aload_n hx hb dX11_found_0 rfl (lv_at hl 0 rfl) ?_
  refine lv_iload_n hx hb dX11_found_1 rfl (lv_at hl 1 rfl) ?_
  refine va_put (D := D) (ci := 10) (v := .int x1) (ty := .int) (C := RX11) (T := TX11) (N := 9) hx hb hts (zi iX11) tyX11 tyX11_ok nmX11 hown hK hP hD hS 0 (zg_on _ _ _ _ _ _ _ _ _ _) rfl 8 (by decide) (zh hts k0_223) (fun _ h9 => h9) rfl (by decide +kernel) rfl rfl (Nat.le_of_ble_eq_true rfl) dX11_found_2 (fun H locs hP hD hS => ?_)
  rw [zs_on_8] at hP hD
  refine lv_ldcw (own := RX11) (v := -1000010) hx hb hown (zh hts k1_18) dX11_found_5 ?_
  refine lv_iload_n hx hb dX11_found_8 rfl (lv_at hl 1 rfl) ?_
  refine lv_isub hx hb dX11_found_9 ?_
  obtain rfl := Option.some.inj hF
  exact hend _ _ _ _ hP hD hS dX11_found_10
def fX11_fine (N : Nat) (on : zNS) (x1 : Int32) : Option (Int32 × zNS) :=
  some (x1, zNf on (0 : Int32))
set_option maxHeartbeats 4000000 in
set_option maxRecDepth 100000 in
theorem qX11_fine (l : Launch) (D : va_G) (E : zE) (KL : List Nat) (kc : Nat → zKC) (on : zNS) (rw rd ft tr : zOS) (la : Nat → zLS) (mo : zMS) (N sz : Nat) (x1 : Int32) (out : Int32 × zNS) (hF : fX11_fine N on x1 = some out) : zCi l yX11_fine zwX11_fine ({ frames := 0, cells := 0, slots := 0, locals := 0 }) [.ref (E.1 0), .int x1] D E sz (zW E KL kc on rw rd ft tr la mo) (zW E KL kc out.2 rw rd ft tr la mo) out.1 0 0 := by
  refine zent_i (cc := cX11_fine) (nL := 2) (by decide) rfl (Nat.le_of_ble_eq_true rfl) ?_
  intro p e s m args below meth c Q A hx hb hml hown hts hA hK hP hD hS hE ls hl hend
  have hown : s.vm.findClass RX11 = some m.cls := hown
  have hl : lv_has ls 2 [(0, .ref (E.1 0)), (1, .int x1)] := hl
  rw [fX11_fine] at hF
  refine lv_aload_n hx hb dX11_fine_0 rfl (lv_at hl 0 rfl) ?_
  refine lv_iconst (v := 0) hx hb dX11_fine_1 (by decide) ?_
  refine va_put (D := D) (ci := 10) (v := .int (0 : Int32)) (ty := .int) (C := RX11) (T := TX11) (N := 9) hx hb hts (zi iX11) tyX11 tyX11_ok nmX11 hown hK hP hD hS 0 (zg_on _ _ _ _ _ _ _ _ _ _) rfl 8 (by decide) (zh hts k0_223) (fun _ h9 => h9) rfl (by decide +kernel) rfl rfl (Nat.le_of_ble_eq_true rfl) dX11_fine_2 (fun H locs hP hD hS => ?_)
  rw [zs_on_8] at hP hD
  refine lv_iload_n hx hb dX11_fine_5 rfl (lv_at hl 1 rfl) ?_
  obtain rfl := Option.some.inj hF
  exact hend _ _ _ _ hP hD hS dX11_fine_6
def fX11_row (N : Nat) (on : zNS) (rw : zOS) (x1 : Int32) (x2 : Int32) (x3 : Int32) : Option (Int32 × zNS × zOS) :=
  (fX7_isRow N x1).bind fun u_1 =>
  if u_1 = 0 then
    some ((-1000001 : Int32), on, rw)
  else
    (fX11_within N x2 (0 : Int32) (2 : Int32)).bind fun u_3 =>
    if u_3 = 0 then
      some ((-1000001 : Int32), on, rw)
    else
      if x3 ≤ (40 : Int32) then
        if 0 ≤ x3 then
          (fX7_lay N rw x1 x2 x3).bind fun u_7 =>
          (fX11_fine N on x3).bind fun u_8 =>
          some (u_8.1, u_8.2, u_7)
        else
          (fX11_found N on (4 : Int32)).bind fun u_9 =>
          some (u_9.1, u_9.2, rw)
      else
        some ((-1000001 : Int32), on, rw)
set_option maxHeartbeats 4000000 in
set_option maxRecDepth 100000 in
theorem qX11_row (l : Launch) (D : va_G) (E : zE) (KL : List Nat) (kc : Nat → zKC) (on : zNS) (rw rd ft tr : zOS) (la : Nat → zLS) (mo : zMS) (N sz : Nat) (x1 : Int32) (x2 : Int32) (x3 : Int32) (out : Int32 × zNS × zOS) (hF : fX11_row N on rw x1 x2 x3 = some out) : zCi l yX11_row zwX11_row ({ frames := 3, cells := 0, slots := 0, locals := 69 }) [.ref (E.1 0), .int x1, .int x2, .int x3] D E sz (zW E KL kc on rw rd ft tr la mo) (zW E KL kc out.2.1 out.2.2 rd ft tr la mo) out.1 0 0 := by
  refine zent_i (cc := cX11_row) (nL := 4) (by decide) rfl (Nat.le_of_ble_eq_true rfl) ?_
  intro p e s m args below meth c Q A hx hb hml hown hts hA hK hP hD hS hE ls hl hend
  have hown : s.vm.findClass RX11 = some m.cls := hown
  have hl : lv_has ls 4 [(0, .ref (E.1 0)), (1, .int x1), (2, .int x2), (3, .int x3)] := hl
  rw [fX11_row] at hF
  refine lv_iload_n hx hb dX11_row_0 rfl (lv_at hl 1 rfl) ?_
  obtain ⟨u_1, hu_1, hF⟩ := zbd hF
  refine zcall_i (va_runS (As := [.int x1]) (rest := []) ⟨hx, hb, hml, hown, hts⟩ (qX7_isRow l D E KL kc on rw rd ft tr la mo N _ x1 _ hu_1) (va_cwS 1 hts (zgS k1_7 k1_8 k0_2 k1_9) rfl rfl rfl (by decide +kernel) ⟨Nat.le_of_ble_eq_true rfl, Nat.le_of_ble_eq_true rfl⟩) (zps hE hS hA hK hP hD) rfl rfl hl.1 rfl (lv_room (Nat.le_of_ble_eq_true rfl)) dX11_row_1 ⟨Nat.zero_le _, Nat.zero_le _⟩) hD hS hA (fun H locs hP hD hS => ?_)
  refine lv_if_eq (tgt := 22) hx hb dX11_row_4 (by decide) (fun c_2 => ?_) (fun c_2 => ?_)
  · have hF := zit c_2 hF
    refine lv_ldc (own := RX11) (v := -1000001) hx hb hown (zh hts k1_13) dX11_row_22 ?_
    obtain rfl := Option.some.inj hF
    exact hend _ _ _ _ hP hD hS dX11_row_24
  · have hF := zif c_2 hF
    refine lv_iload_n hx hb dX11_row_7 rfl (lv_at hl 2 rfl) ?_
    refine lv_iconst (v := 0) hx hb dX11_row_8 (by decide) ?_
    refine lv_iconst (v := 2) hx hb dX11_row_9 (by decide) ?_
    obtain ⟨u_3, hu_3, hF⟩ := zbd hF
    refine zcall_i (va_runS (As := [.int x2, .int (0 : Int32), .int (2 : Int32)]) (rest := []) ⟨hx, hb, hml, hown, hts⟩ (qX11_within l D E KL kc on rw rd ft tr la mo N _ x2 (0 : Int32) (2 : Int32) _ hu_3) (va_cwS 3 hts (zgS k1_10 k1_11 k0_1 k1_12) rfl rfl rfl (by decide +kernel) ⟨Nat.le_of_ble_eq_true rfl, Nat.le_of_ble_eq_true rfl⟩) (zps hE hS hA hK hP hD) rfl rfl hl.1 rfl (lv_room (Nat.le_of_ble_eq_true rfl)) dX11_row_10 ⟨Nat.zero_le _, Nat.zero_le _⟩) hD hS hA (fun H locs hP hD hS => ?_)
    refine lv_if_eq (tgt := 22) hx hb dX11_row_13 (by decide) (fun c_4 => ?_) (fun c_4 => ?_)
    · have hF := zit c_4 hF
      refine lv_ldc (own := RX11) (v := -1000001) hx hb hown (zh hts k1_13) dX11_row_22 ?_
      obtain rfl := Option.some.inj hF
      exact hend _ _ _ _ hP hD hS dX11_row_24
    · have hF := zif c_4 hF
      refine lv_iload_n hx hb dX11_row_16 rfl (lv_at hl 3 rfl) ?_
      refine lv_bipush (v := 40) hx hb dX11_row_17 (by decide) ?_
      refine lv_icmp_le (tgt := 25) hx hb dX11_row_19 (by decide) (fun c_5 => ?_) (fun c_5 => ?_)
      · have hF := zit c_5 hF
        refine lv_iload_n hx hb dX11_row_25 rfl (lv_at hl 3 rfl) ?_
        refine lv_if_ge (tgt := 35) hx hb dX11_row_26 (by decide) (fun c_6 => ?_) (fun c_6 => ?_)
        · have hF := zit c_6 hF
          refine lv_aload_n hx hb dX11_row_35 rfl (lv_at hl 0 rfl) ?_
          refine va_get (D := D) (ci := 10) (v := .ref (E.1 1)) (C := RX11) (T := TX11) (N := 9) hx hb hts (zi iX11) hown hK hP 0 (zg_on _ _ _ _ _ _ _ _ _ _) rfl 0 (by decide) (zh hts k0_215) (fun _ h9 => h9) rfl dX11_row_36 ?_
          refine lv_iload_n hx hb dX11_row_39 rfl (lv_at hl 1 rfl) ?_
          refine lv_iload_n hx hb dX11_row_40 rfl (lv_at hl 2 rfl) ?_
          refine lv_iload_n hx hb dX11_row_41 rfl (lv_at hl 3 rfl) ?_
          obtain ⟨u_7, hu_7, hF⟩ := zbd hF
          refine zcall_v (va_runV (As := [.int x1, .int x2, .int x3]) (rest := []) ⟨hx, hb, hml, hown, hts⟩ (qX7_lay l D E KL kc on rw rd ft tr la mo N _ x1 x2 x3 _ hu_7) (cwV 3 hts (zgV k1_19 k1_20 k1_21 k0_2 k1_22) rfl rfl rfl (by decide +kernel) ⟨Nat.le_of_ble_eq_true rfl, Nat.le_of_ble_eq_true rfl⟩) (zpv hE hS hA hK hP hD (va_recv hK hP (ci := 6) (q0 := 1) rfl (zg_rw _ _ _ _ _ _ _ _ _ _))) rfl rfl hl.1 rfl (lv_room (Nat.le_of_ble_eq_true rfl)) dX11_row_42 ⟨Nat.zero_le _, Nat.zero_le _⟩) hD hS hA (fun H locs hP hD hS => ?_)
          refine lv_aload_n hx hb dX11_row_45 rfl (lv_at hl 0 rfl) ?_
          refine lv_iload_n hx hb dX11_row_46 rfl (lv_at hl 3 rfl) ?_
          obtain ⟨u_8, hu_8, hF⟩ := zbd hF
          refine zcall_i (va_runV (As := [.int x3]) (rest := []) ⟨hx, hb, hml, hown, hts⟩ (qX11_fine l D E KL kc on u_7 rd ft tr la mo N _ x3 _ hu_8) (cwV 1 hts (zgV k1_30 k1_32 kp0_1 k0_1 k1_33) rfl rfl rfl (by decide +kernel) ⟨Nat.le_of_ble_eq_true rfl, Nat.le_of_ble_eq_true rfl⟩) (zpv hE hS hA hK hP hD (va_recv hK hP (ci := 10) (q0 := 0) rfl (zg_on _ _ _ _ _ _ _ _ _ _))) rfl rfl hl.1 rfl (lv_room (Nat.le_of_ble_eq_true rfl)) dX11_row_47 ⟨Nat.zero_le _, Nat.zero_le _⟩) hD hS hA (fun H locs hP hD hS => ?_)
          obtain rfl := Option.some.inj hF
          exact hend _ _ _ _ hP hD hS dX11_row_50
        · have hF := zif c_6 hF
          refine lv_aload_n hx hb dX11_row_29 rfl (lv_at hl 0 rfl) ?_
          refine lv_iconst (v := 4) hx hb dX11_row_30 (by decide) ?_
          obtain ⟨u_9, hu_9, hF⟩ := zbd hF
          refine zcall_i (va_runV (As := [.int (4 : Int32)]) (rest := []) ⟨hx, hb, hml, hown, hts⟩ (qX11_found l D E KL kc on rw rd ft tr la mo N _ (4 : Int32) _ hu_9) (cwV 1 hts (zgV k1_14 k1_16 kp0_0 k0_1 k1_17) rfl rfl rfl (by decide +kernel) ⟨Nat.le_of_ble_eq_true rfl, Nat.le_of_ble_eq_true rfl⟩) (zpv hE hS hA hK hP hD (va_recv hK hP (ci := 10) (q0 := 0) rfl (zg_on _ _ _ _ _ _ _ _ _ _))) rfl rfl hl.1 rfl (lv_room (Nat.le_of_ble_eq_true rfl)) dX11_row_31 ⟨Nat.zero_le _, Nat.zero_le _⟩) hD hS hA (fun H locs hP hD hS => ?_)
          obtain rfl := Option.some.inj hF
          exact hend _ _ _ _ hP hD hS dX11_row_34
      · have hF := zif c_5 hF
        refine lv_ldc (own := RX11) (v := -1000001) hx hb hown (zh hts k1_13) dX11_row_22 ?_
        obtain rfl := Option.some.inj hF
        exact hend _ _ _ _ hP hD hS dX11_row_24
def fX11_set (N : Nat) (on : zNS) (rw : zOS) (x1 : Int32) (x2 : Int32) (x3 : Int32) : Option (Int32 × zNS × zOS) :=
  (fX7_isRow N x1).bind fun u_1 =>
  if u_1 = 0 then
    some ((-1000001 : Int32), on, rw)
  else
    (fX7_isMissing N rw x1).bind fun u_3 =>
    if u_3 = 0 then
      (fX7_isPlace N rw x1 x2).bind fun u_5 =>
      if u_5 = 0 then
        (fX11_found N on (2 : Int32)).bind fun u_9 =>
        some (u_9.1, u_9.2, rw)
      else
        (fX7_put N rw x1 x2 x3).bind fun u_7 =>
        (fX11_fine N on u_7.1).bind fun u_8 =>
        some (u_8.1, u_8.2, u_7.2)
    else
      (fX11_found N on (1 : Int32)).bind fun u_10 =>
      some (u_10.1, u_10.2, rw)
set_option maxHeartbeats 4000000 in
set_option maxRecDepth 100000 in
theorem qX11_set (l : Launch) (D : va_G) (E : zE) (KL : List Nat) (kc : Nat → zKC) (on : zNS) (rw rd ft tr : zOS) (la : Nat → zLS) (mo : zMS) (N sz : Nat) (x1 : Int32) (x2 : Int32) (x3 : Int32) (out : Int32 × zNS × zOS) (hF : fX11_set N on rw x1 x2 x3 = some out) : zCi l yX11_set zwX11_set ({ frames := 3, cells := 0, slots := 0, locals := 65 }) [.ref (E.1 0), .int x1, .int x2, .int x3] D E sz (zW E KL kc on rw rd ft tr la mo) (zW E KL kc out.2.1 out.2.2 rd ft tr la mo) out.1 0 0 := by
  refine zent_i (cc := cX11_set) (nL := 4) (by decide) rfl (Nat.le_of_ble_eq_true rfl) ?_
  intro p e s m args below meth c Q A hx hb hml hown hts hA hK hP hD hS hE ls hl hend
  have hown : s.vm.findClass RX11 = some m.cls := hown
  have hl : lv_has ls 4 [(0, .ref (E.1 0)), (1, .int x1), (2, .int x2), (3, .int x3)] := hl
  rw [fX11_set] at hF
  refine lv_iload_n hx hb dX11_set_0 rfl (lv_at hl 1 rfl) ?_
  obtain ⟨u_1, hu_1, hF⟩ := zbd hF
  refine zcall_i (va_runS (As := [.int x1]) (rest := []) ⟨hx, hb, hml, hown, hts⟩ (qX7_isRow l D E KL kc on rw rd ft tr la mo N _ x1 _ hu_1) (va_cwS 1 hts (zgS k1_7 k1_8 k0_2 k1_9) rfl rfl rfl (by decide +kernel) ⟨Nat.le_of_ble_eq_true rfl, Nat.le_of_ble_eq_true rfl⟩) (zps hE hS hA hK hP hD) rfl rfl hl.1 rfl (lv_room (Nat.le_of_ble_eq_true rfl)) dX11_set_1 ⟨Nat.zero_le _, Nat.zero_le _⟩) hD hS hA (fun H locs hP hD hS => ?_)
  refine lv_if_ne (tgt := 10) hx hb dX11_set_4 (by decide) (fun c_2 => ?_) (fun c_2 => ?_)
  · have hF := zif c_2 hF
    refine lv_aload_n hx hb dX11_set_10 rfl (lv_at hl 0 rfl) ?_
    refine va_get (D := D) (ci := 10) (v := .ref (E.1 1)) (C := RX11) (T := TX11) (N := 9) hx hb hts (zi iX11) hown hK hP 0 (zg_on _ _ _ _ _ _ _ _ _ _) rfl 0 (by decide) (zh hts k0_215) (fun _ h9 => h9) rfl dX11_set_11 ?_
    refine lv_iload_n hx hb dX11_set_14 rfl (lv_at hl 1 rfl) ?_
    obtain ⟨u_3, hu_3, hF⟩ := zbd hF
    refine zcall_i (va_runV (As := [.int x1]) (rest := []) ⟨hx, hb, hml, hown, hts⟩ (qX7_isMissing l D E KL kc on rw rd ft tr la mo N _ x1 _ hu_3) (cwV 1 hts (zgV k1_38 k1_39 k1_40 k0_2 k1_41) rfl rfl rfl (by decide +kernel) ⟨Nat.le_of_ble_eq_true rfl, Nat.le_of_ble_eq_true rfl⟩) (zpv hE hS hA hK hP hD (va_recv hK hP (ci := 6) (q0 := 1) rfl (zg_rw _ _ _ _ _ _ _ _ _ _))) rfl rfl hl.1 rfl (lv_room (Nat.le_of_ble_eq_true rfl)) dX11_set_15 ⟨Nat.zero_le _, Nat.zero_le _⟩) hD hS hA (fun H locs hP hD hS => ?_)
    refine lv_if_eq (tgt := 27) hx hb dX11_set_18 (by decide) (fun c_4 => ?_) (fun c_4 => ?_)
    · have hF := zit c_4 hF
      refine lv_aload_n hx hb dX11_set_27 rfl (lv_at hl 0 rfl) ?_
      refine va_get (D := D) (ci := 10) (v := .ref (E.1 1)) (C := RX11) (T := TX11) (N := 9) hx hb hts (zi iX11) hown hK hP 0 (zg_on _ _ _ _ _ _ _ _ _ _) rfl 0 (by decide) (zh hts k0_215) (fun _ h9 => h9) rfl dX11_set_28 ?_
      refine lv_iload_n hx hb dX11_set_31 rfl (lv_at hl 1 rfl) ?_
      refine lv_iload_n hx hb dX11_set_32 rfl (lv_at hl 2 rfl) ?_
      obtain ⟨u_5, hu_5, hF⟩ := zbd hF
      refine zcall_i (va_runV (As := [.int x1, .int x2]) (rest := []) ⟨hx, hb, hml, hown, hts⟩ (qX7_isPlace l D E KL kc on rw rd ft tr la mo N _ x1 x2 _ hu_5) (cwV 2 hts (zgV k1_42 k1_43 k1_44 k0_2 k1_45) rfl rfl rfl (by decide +kernel) ⟨Nat.le_of_ble_eq_true rfl, Nat.le_of_ble_eq_true rfl⟩) (zpv hE hS hA hK hP hD (va_recv hK hP (ci := 6) (q0 := 1) rfl (zg_rw _ _ _ _ _ _ _ _ _ _))) rfl rfl hl.1 rfl (lv_room (Nat.le_of_ble_eq_true rfl)) dX11_set_33 ⟨Nat.zero_le _, Nat.zero_le _⟩) hD hS hA (fun H locs hP hD hS => ?_)
      refine lv_if_ne (tgt := 45) hx hb dX11_set_36 (by decide) (fun c_6 => ?_) (fun c_6 => ?_)
      · have hF := zif c_6 hF
        refine lv_aload_n hx hb dX11_set_45 rfl (lv_at hl 0 rfl) ?_
        refine lv_aload_n hx hb dX11_set_46 rfl (lv_at hl 0 rfl) ?_
        refine va_get (D := D) (ci := 10) (v := .ref (E.1 1)) (C := RX11) (T := TX11) (N := 9) hx hb hts (zi iX11) hown hK hP 0 (zg_on _ _ _ _ _ _ _ _ _ _) rfl 0 (by decide) (zh hts k0_215) (fun _ h9 => h9) rfl dX11_set_47 ?_
        refine lv_iload_n hx hb dX11_set_50 rfl (lv_at hl 1 rfl) ?_
        refine lv_iload_n hx hb dX11_set_51 rfl (lv_at hl 2 rfl) ?_
        refine lv_iload_n hx hb dX11_set_52 rfl (lv_at hl 3 rfl) ?_
        obtain ⟨u_7, hu_7, hF⟩ := zbd hF
        refine zcall_i (va_runV (As := [.int x1, .int x2, .int x3]) (rest := [.ref (E.1 0)]) ⟨hx, hb, hml, hown, hts⟩ (qX7_put l D E KL kc on rw rd ft tr la mo N _ x1 x2 x3 _ hu_7) (cwV 3 hts (zgV k1_46 k1_47 k1_48 k0_2 k1_49) rfl rfl rfl (by decide +kernel) ⟨Nat.le_of_ble_eq_true rfl, Nat.le_of_ble_eq_true rfl⟩) (zpv hE hS hA hK hP hD (va_recv hK hP (ci := 6) (q0 := 1) rfl (zg_rw _ _ _ _ _ _ _ _ _ _))) rfl rfl hl.1 rfl (lv_room (Nat.le_of_ble_eq_true rfl)) dX11_set_53 ⟨Nat.zero_le _, Nat.zero_le _⟩) hD hS hA (fun H locs hP hD hS => ?_)
        obtain ⟨u_8, hu_8, hF⟩ := zbd hF
        refine zcall_i (va_runV (As := [.int u_7.1]) (rest := []) ⟨hx, hb, hml, hown, hts⟩ (qX11_fine l D E KL kc on u_7.2 rd ft tr la mo N _ u_7.1 _ hu_8) (cwV 1 hts (zgV k1_30 k1_32 kp0_1 k0_1 k1_33) rfl rfl rfl (by decide +kernel) ⟨Nat.le_of_ble_eq_true rfl, Nat.le_of_ble_eq_true rfl⟩) (zpv hE hS hA hK hP hD (va_recv hK hP (ci := 10) (q0 := 0) rfl (zg_on _ _ _ _ _ _ _ _ _ _))) rfl rfl hl.1 rfl (lv_room (Nat.le_of_ble_eq_true rfl)) dX11_set_56 ⟨Nat.zero_le _, Nat.zero_le _⟩) hD hS hA (fun H locs hP hD hS => ?_)
        obtain rfl := Option.some.inj hF
        exact hend _ _ _ _ hP hD hS dX11_set_59
      · have hF := zit c_6 hF
        refine lv_aload_n hx hb dX11_set_39 rfl (lv_at hl 0 rfl) ?_
        refine lv_iconst (v := 2) hx hb dX11_set_40 (by decide) ?_
        obtain ⟨u_9, hu_9, hF⟩ := zbd hF
        refine zcall_i (va_runV (As := [.int (2 : Int32)]) (rest := []) ⟨hx, hb, hml, hown, hts⟩ (qX11_found l D E KL kc on rw rd ft tr la mo N _ (2 : Int32) _ hu_9) (cwV 1 hts (zgV k1_14 k1_16 kp0_0 k0_1 k1_17) rfl rfl rfl (by decide +kernel) ⟨Nat.le_of_ble_eq_true rfl, Nat.le_of_ble_eq_true rfl⟩) (zpv hE hS hA hK hP hD (va_recv hK hP (ci := 10) (q0 := 0) rfl (zg_on _ _ _ _ _ _ _ _ _ _))) rfl rfl hl.1 rfl (lv_room (Nat.le_of_ble_eq_true rfl)) dX11_set_41 ⟨Nat.zero_le _, Nat.zero_le _⟩) hD hS hA (fun H locs hP hD hS => ?_)
        obtain rfl := Option.some.inj hF
        exact hend _ _ _ _ hP hD hS dX11_set_44
    · have hF := zif c_4 hF
      refine lv_aload_n hx hb dX11_set_21 rfl (lv_at hl 0 rfl) ?_
      refine lv_iconst (v := 1) hx hb dX11_set_22 (by decide) ?_
      obtain ⟨u_10, hu_10, hF⟩ := zbd hF
      refine zcall_i (va_runV (As := [.int (1 : Int32)]) (rest := []) ⟨hx, hb, hml, hown, hts⟩ (qX11_found l D E KL kc on rw rd ft tr la mo N _ (1 : Int32) _ hu_10) (cwV 1 hts (zgV k1_14 k1_16 kp0_0 k0_1 k1_17) rfl rfl rfl (by decide +kernel) ⟨Nat.le_of_ble_eq_true rfl, Nat.le_of_ble_eq_true rfl⟩) (zpv hE hS hA hK hP hD (va_recv hK hP (ci := 10) (q0 := 0) rfl (zg_on _ _ _ _ _ _ _ _ _ _))) rfl rfl hl.1 rfl (lv_room (Nat.le_of_ble_eq_true rfl)) dX11_set_23 ⟨Nat.zero_le _, Nat.zero_le _⟩) hD hS hA (fun H locs hP hD hS => ?_)
      obtain rfl := Option.some.inj hF
      exact hend _ _ _ _ hP hD hS dX11_set_26
  · have hF := zit c_2 hF
    refine lv_ldc (own := RX11) (v := -1000001) hx hb hown (zh hts k1_13) dX11_set_7 ?_
    obtain rfl := Option.some.inj hF
    exact hend _ _ _ _ hP hD hS dX11_set_9
def fX11_copy (N : Nat) (on : zNS) (rw : zOS) (x1 : Int32) (x2 : Int32) (x3 : Int32) (x4 : Int32) (x5 : Int32) : Option (Int32 × zNS × zOS) :=
  (fX7_isRow N x1).bind fun u_1 =>
  if u_1 = 0 then
    some ((-1000001 : Int32), on, rw)
  else
    (fX7_isRow N x3).bind fun u_3 =>
    if u_3 = 0 then
      some ((-1000001 : Int32), on, rw)
    else
      (fX7_isMissing N rw x1).bind fun u_5 =>
      if u_5 = 0 then
        (fX7_isMissing N rw x3).bind fun u_8 =>
        if u_8 = 0 then
          (fX7_areOfOneLane N rw x1 x3).bind fun u_10 =>
          if u_10 = 0 then
            (fX11_found N on (5 : Int32)).bind fun u_20 =>
            some (u_20.1, u_20.2, rw)
          else
            (fX7_isStretch N rw x1 x2 x5).bind fun u_12 =>
            if u_12 = 0 then
              (fX11_found N on (2 : Int32)).bind fun u_14 =>
              some (u_14.1, u_14.2, rw)
            else
              (fX7_isStretch N rw x3 x4 x5).bind fun u_15 =>
              if u_15 = 0 then
                (fX11_found N on (2 : Int32)).bind fun u_19 =>
                some (u_19.1, u_19.2, rw)
              else
                (fX7_move N rw x1 x2 x3 x4 x5).bind fun u_17 =>
                (fX11_fine N on x5).bind fun u_18 =>
                some (u_18.1, u_18.2, u_17)
        else
          (fX11_found N on (1 : Int32)).bind fun u_21 =>
          some (u_21.1, u_21.2, rw)
      else
        (fX11_found N on (1 : Int32)).bind fun u_7 =>
        some (u_7.1, u_7.2, rw)
set_option maxHeartbeats 4000000 in
set_option maxRecDepth 100000 in
theorem qX11_copy (l : Launch) (D : va_G) (E : zE) (KL : List Nat) (kc : Nat → zKC) (on : zNS) (rw rd ft tr : zOS) (la : Nat → zLS) (mo : zMS) (N sz : Nat) (x1 : Int32) (x2 : Int32) (x3 : Int32) (x4 : Int32) (x5 : Int32) (out : Int32 × zNS × zOS) (hF : fX11_copy N on rw x1 x2 x3 x4 x5 = some out) : zCi l yX11_copy zwX11_copy ({ frames := 3, cells := 0, slots := 0, locals := 85 }) [.ref (E.1 0), .int x1, .int x2, .int x3, .int x4, .int x5] D E sz (zW E KL kc on rw rd ft tr la mo) (zW E KL kc out.2.1 out.2.2 rd ft tr la mo) out.1 0 0 := by
  refine zent_i (cc := cX11_copy) (nL := 6) (by decide) rfl (Nat.le_of_ble_eq_true rfl) ?_
  intro p e s m args below meth c Q A hx hb hml hown hts hA hK hP hD hS hE ls hl hend
  have hown : s.vm.findClass RX11 = some m.cls := hown
  have hl : lv_has ls 6 [(0, .ref (E.1 0)), (1, .int x1), (2, .int x2), (3, .int x3), (4, .int x4), (5, .int x5)] := hl
  rw [fX11_copy] at hF
  refine lv_iload_n hx hb dX11_copy_0 rfl (lv_at hl 1 rfl) ?_
  obtain ⟨u_1, hu_1, hF⟩ := zbd hF
  refine zcall_i (va_runS (As := [.int x1]) (rest := []) ⟨hx, hb, hml, hown, hts⟩ (qX7_isRow l D E KL kc on rw rd ft tr la mo N _ x1 _ hu_1) (va_cwS 1 hts (zgS k1_7 k1_8 k0_2 k1_9) rfl rfl rfl (by decide +kernel) ⟨Nat.le_of_ble_eq_true rfl, Nat.le_of_ble_eq_true rfl⟩) (zps hE hS hA hK hP hD) rfl rfl hl.1 rfl (lv_room (Nat.le_of_ble_eq_true rfl)) dX11_copy_1 ⟨Nat.zero_le _, Nat.zero_le _⟩) hD hS hA (fun H locs hP hD hS => ?_)
  refine lv_if_eq (tgt := 14) hx hb dX11_copy_4 (by decide) (fun c_2 => ?_) (fun c_2 => ?_)
  · have hF := zit c_2 hF
    refine lv_ldc (own := RX11) (v := -1000001) hx hb hown (zh hts k1_13) dX11_copy_14 ?_
    obtain rfl := Option.some.inj hF
    exact hend _ _ _ _ hP hD hS dX11_copy_16
  · have hF := zif c_2 hF
    refine lv_iload_n hx hb dX11_copy_7 rfl (lv_at hl 3 rfl) ?_
    obtain ⟨u_3, hu_3, hF⟩ := zbd hF
    refine zcall_i (va_runS (As := [.int x3]) (rest := []) ⟨hx, hb, hml, hown, hts⟩ (qX7_isRow l D E KL kc on rw rd ft tr la mo N _ x3 _ hu_3) (va_cwS 1 hts (zgS k1_7 k1_8 k0_2 k1_9) rfl rfl rfl (by decide +kernel) ⟨Nat.le_of_ble_eq_true rfl, Nat.le_of_ble_eq_true rfl⟩) (zps hE hS hA hK hP hD) rfl rfl hl.1 rfl (lv_room (Nat.le_of_ble_eq_true rfl)) dX11_copy_8 ⟨Nat.zero_le _, Nat.zero_le _⟩) hD hS hA (fun H locs hP hD hS => ?_)
    refine lv_if_ne (tgt := 17) hx hb dX11_copy_11 (by decide) (fun c_4 => ?_) (fun c_4 => ?_)
    · have hF := zif c_4 hF
      refine lv_aload_n hx hb dX11_copy_17 rfl (lv_at hl 0 rfl) ?_
      refine va_get (D := D) (ci := 10) (v := .ref (E.1 1)) (C := RX11) (T := TX11) (N := 9) hx hb hts (zi iX11) hown hK hP 0 (zg_on _ _ _ _ _ _ _ _ _ _) rfl 0 (by decide) (zh hts k0_215) (fun _ h9 => h9) rfl dX11_copy_18 ?_
      refine lv_iload_n hx hb dX11_copy_21 rfl (lv_at hl 1 rfl) ?_
      obtain ⟨u_5, hu_5, hF⟩ := zbd hF
      refine zcall_i (va_runV (As := [.int x1]) (rest := []) ⟨hx, hb, hml, hown, hts⟩ (qX7_isMissing l D E KL kc on rw rd ft tr la mo N _ x1 _ hu_5) (cwV 1 hts (zgV k1_38 k1_39 k1_40 k0_2 k1_41) rfl rfl rfl (by decide +kernel) ⟨Nat.le_of_ble_eq_true rfl, Nat.le_of_ble_eq_true rfl⟩) (zpv hE hS hA hK hP hD (va_recv hK hP (ci := 6) (q0 := 1) rfl (zg_rw _ _ _ _ _ _ _ _ _ _))) rfl rfl hl.1 rfl (lv_room (Nat.le_of_ble_eq_true rfl)) dX11_copy_22 ⟨Nat.zero_le _, Nat.zero_le _⟩) hD hS hA (fun H locs hP hD hS => ?_)
      refine lv_if_ne (tgt := 39) hx hb dX11_copy_25 (by decide) (fun c_6 => ?_) (fun c_6 => ?_)
      · have hF := zif c_6 hF
        refine lv_aload_n hx hb dX11_copy_39 rfl (lv_at hl 0 rfl) ?_
        refine lv_iconst (v := 1) hx hb dX11_copy_40 (by decide) ?_
        obtain ⟨u_7, hu_7, hF⟩ := zbd hF
        refine zcall_i (va_runV (As := [.int (1 : Int32)]) (rest := []) ⟨hx, hb, hml, hown, hts⟩ (qX11_found l D E KL kc on rw rd ft tr la mo N _ (1 : Int32) _ hu_7) (cwV 1 hts (zgV k1_14 k1_16 kp0_0 k0_1 k1_17) rfl rfl rfl (by decide +kernel) ⟨Nat.le_of_ble_eq_true rfl, Nat.le_of_ble_eq_true rfl⟩) (zpv hE hS hA hK hP hD (va_recv hK hP (ci := 10) (q0 := 0) rfl (zg_on _ _ _ _ _ _ _ _ _ _))) rfl rfl hl.1 rfl (lv_room (Nat.le_of_ble_eq_true rfl)) dX11_copy_41 ⟨Nat.zero_le _, Nat.zero_le _⟩) hD hS hA (fun H locs hP hD hS => ?_)
        obtain rfl := Option.some.inj hF
        exact hend _ _ _ _ hP hD hS dX11_copy_44
      · have hF := zit c_6 hF
        refine lv_aload_n hx hb dX11_copy_28 rfl (lv_at hl 0 rfl) ?_
        refine va_get (D := D) (ci := 10) (v := .ref (E.1 1)) (C := RX11) (T := TX11) (N := 9) hx hb hts (zi iX11) hown hK hP 0 (zg_on _ _ _ _ _ _ _ _ _ _) rfl 0 (by decide) (zh hts k0_215) (fun _ h9 => h9) rfl dX11_copy_29 ?_
        refine lv_iload_n hx hb dX11_copy_32 rfl (lv_at hl 3 rfl) ?_
        obtain ⟨u_8, hu_8, hF⟩ := zbd hF
        refine zcall_i (va_runV (As := [.int x3]) (rest := []) ⟨hx, hb, hml, hown, hts⟩ (qX7_isMissing l D E KL kc on rw rd ft tr la mo N _ x3 _ hu_8) (cwV 1 hts (zgV k1_38 k1_39 k1_40 k0_2 k1_41) rfl rfl rfl (by decide +kernel) ⟨Nat.le_of_ble_eq_true rfl, Nat.le_of_ble_eq_true rfl⟩) (zpv hE hS hA hK hP hD (va_recv hK hP (ci := 6) (q0 := 1) rfl (zg_rw _ _ _ _ _ _ _ _ _ _))) rfl rfl hl.1 rfl (lv_room (Nat.le_of_ble_eq_true rfl)) dX11_copy_33 ⟨Nat.zero_le _, Nat.zero_le _⟩) hD hS hA (fun H locs hP hD hS => ?_)
        refine lv_if_eq (tgt := 45) hx hb dX11_copy_36 (by decide) (fun c_9 => ?_) (fun c_9 => ?_)
        · have hF := zit c_9 hF
          refine lv_aload_n hx hb dX11_copy_45 rfl (lv_at hl 0 rfl) ?_
          refine va_get (D := D) (ci := 10) (v := .ref (E.1 1)) (C := RX11) (T := TX11) (N := 9) hx hb hts (zi iX11) hown hK hP 0 (zg_on _ _ _ _ _ _ _ _ _ _) rfl 0 (by decide) (zh hts k0_215) (fun _ h9 => h9) rfl dX11_copy_46 ?_
          refine lv_iload_n hx hb dX11_copy_49 rfl (lv_at hl 1 rfl) ?_
          refine lv_iload_n hx hb dX11_copy_50 rfl (lv_at hl 3 rfl) ?_
          obtain ⟨u_10, hu_10, hF⟩ := zbd hF
          refine zcall_i (va_runV (As := [.int x1, .int x3]) (rest := []) ⟨hx, hb, hml, hown, hts⟩ (qX7_areOfOneLane l D E KL kc on rw rd ft tr la mo N _ x1 x3 _ hu_10) (cwV 2 hts (zgV k1_58 k1_59 k1_60 k0_2 k1_61) rfl rfl rfl (by decide +kernel) ⟨Nat.le_of_ble_eq_true rfl, Nat.le_of_ble_eq_true rfl⟩) (zpv hE hS hA hK hP hD (va_recv hK hP (ci := 6) (q0 := 1) rfl (zg_rw _ _ _ _ _ _ _ _ _ _))) rfl rfl hl.1 rfl (lv_room (Nat.le_of_ble_eq_true rfl)) dX11_copy_51 ⟨Nat.zero_le _, Nat.zero_le _⟩) hD hS hA (fun H locs hP hD hS => ?_)
          refine lv_if_ne (tgt := 63) hx hb dX11_copy_54 (by decide) (fun c_11 => ?_) (fun c_11 => ?_)
          · have hF := zif c_11 hF
            refine lv_aload_n hx hb dX11_copy_63 rfl (lv_at hl 0 rfl) ?_
            refine va_get (D := D) (ci := 10) (v := .ref (E.1 1)) (C := RX11) (T := TX11) (N := 9) hx hb hts (zi iX11) hown hK hP 0 (zg_on _ _ _ _ _ _ _ _ _ _) rfl 0 (by decide) (zh hts k0_215) (fun _ h9 => h9) rfl dX11_copy_64 ?_
            refine lv_iload_n hx hb dX11_copy_67 rfl (lv_at hl 1 rfl) ?_
            refine lv_iload_n hx hb dX11_copy_68 rfl (lv_at hl 2 rfl) ?_
            refine lv_iload hx hb dX11_copy_69 (lv_at hl 5 rfl) ?_
            obtain ⟨u_12, hu_12, hF⟩ := zbd hF
            refine zcall_i (va_runV (As := [.int x1, .int x2, .int x5]) (rest := []) ⟨hx, hb, hml, hown, hts⟩ (qX7_isStretch l D E KL kc on rw rd ft tr la mo N _ x1 x2 x5 _ hu_12) (cwV 3 hts (zgV k1_62 k1_63 k1_64 k0_2 k1_65) rfl rfl rfl (by decide +kernel) ⟨Nat.le_of_ble_eq_true rfl, Nat.le_of_ble_eq_true rfl⟩) (zpv hE hS hA hK hP hD (va_recv hK hP (ci := 6) (q0 := 1) rfl (zg_rw _ _ _ _ _ _ _ _ _ _))) rfl rfl hl.1 rfl (lv_room (Nat.le_of_ble_eq_true rfl)) dX11_copy_71 ⟨Nat.zero_le _, Nat.zero_le _⟩) hD hS hA (fun H locs hP hD hS => ?_)
            refine lv_if_eq (tgt := 92) hx hb dX11_copy_74 (by decide) (fun c_13 => ?_) (fun c_13 => ?_)
            · have hF := zit c_13 hF
              refine lv_aload_n hx hb dX11_copy_92 rfl (lv_at hl 0 rfl) ?_
              refine lv_iconst (v := 2) hx hb dX11_copy_93 (by decide) ?_
              obtain ⟨u_14, hu_14, hF⟩ := zbd hF
              refine zcall_i (va_runV (As := [.int (2 : Int32)]) (rest := []) ⟨hx, hb, hml, hown, hts⟩ (qX11_found l D E KL kc on rw rd ft tr la mo N _ (2 : Int32) _ hu_14) (cwV 1 hts (zgV k1_14 k1_16 kp0_0 k0_1 k1_17) rfl rfl rfl (by decide +kernel) ⟨Nat.le_of_ble_eq_true rfl, Nat.le_of_ble_eq_true rfl⟩) (zpv hE hS hA hK hP hD (va_recv hK hP (ci := 10) (q0 := 0) rfl (zg_on _ _ _ _ _ _ _ _ _ _))) rfl rfl hl.1 rfl (lv_room (Nat.le_of_ble_eq_true rfl)) dX11_copy_94 ⟨Nat.zero_le _, Nat.zero_le _⟩) hD hS hA (fun H locs hP hD hS => ?_)
              obtain rfl := Option.some.inj hF
              exact hend _ _ _ _ hP hD hS dX11_copy_97
            · have hF := zif c_13 hF
              refine lv_aload_n hx hb dX11_copy_77 rfl (lv_at hl 0 rfl) ?_
              refine va_get (D := D) (ci := 10) (v := .ref (E.1 1)) (C := RX11) (T := TX11) (N := 9) hx hb hts (zi iX11) hown hK hP 0 (zg_on _ _ _ _ _ _ _ _ _ _) rfl 0 (by decide) (zh hts k0_215) (fun _ h9 => h9) rfl dX11_copy_78 ?_
              refine lv_iload_n hx hb dX11_copy_81 rfl (lv_at hl 3 rfl) ?_
              refine lv_iload hx hb dX11_copy_82 (lv_at hl 4 rfl) ?_
              refine lv_iload hx hb dX11_copy_84 (lv_at hl 5 rfl) ?_
              obtain ⟨u_15, hu_15, hF⟩ := zbd hF
              refine zcall_i (va_runV (As := [.int x3, .int x4, .int x5]) (rest := []) ⟨hx, hb, hml, hown, hts⟩ (qX7_isStretch l D E KL kc on rw rd ft tr la mo N _ x3 x4 x5 _ hu_15) (cwV 3 hts (zgV k1_62 k1_63 k1_64 k0_2 k1_65) rfl rfl rfl (by decide +kernel) ⟨Nat.le_of_ble_eq_true rfl, Nat.le_of_ble_eq_true rfl⟩) (zpv hE hS hA hK hP hD (va_recv hK hP (ci := 6) (q0 := 1) rfl (zg_rw _ _ _ _ _ _ _ _ _ _))) rfl rfl hl.1 rfl (lv_room (Nat.le_of_ble_eq_true rfl)) dX11_copy_86 ⟨Nat.zero_le _, Nat.zero_le _⟩) hD hS hA (fun H locs hP hD hS => ?_)
              refine lv_if_ne (tgt := 98) hx hb dX11_copy_89 (by decide) (fun c_16 => ?_) (fun c_16 => ?_)
              · have hF := zif c_16 hF
                refine lv_aload_n hx hb dX11_copy_98 rfl (lv_at hl 0 rfl) ?_
                refine va_get (D := D) (ci := 10) (v := .ref (E.1 1)) (C := RX11) (T := TX11) (N := 9) hx hb hts (zi iX11) hown hK hP 0 (zg_on _ _ _ _ _ _ _ _ _ _) rfl 0 (by decide) (zh hts k0_215) (fun _ h9 => h9) rfl dX11_copy_99 ?_
                refine lv_iload_n hx hb dX11_copy_102 rfl (lv_at hl 1 rfl) ?_
                refine lv_iload_n hx hb dX11_copy_103 rfl (lv_at hl 2 rfl) ?_
                refine lv_iload_n hx hb dX11_copy_104 rfl (lv_at hl 3 rfl) ?_
                refine lv_iload hx hb dX11_copy_105 (lv_at hl 4 rfl) ?_
                refine lv_iload hx hb dX11_copy_107 (lv_at hl 5 rfl) ?_
                obtain ⟨u_17, hu_17, hF⟩ := zbd hF
                refine zcall_v (va_runV (As := [.int x1, .int x2, .int x3, .int x4, .int x5]) (rest := []) ⟨hx, hb, hml, hown, hts⟩ (qX7_move l D E KL kc on rw rd ft tr la mo N _ x1 x2 x3 x4 x5 _ hu_17) (cwV 5 hts (zgV k1_66 k1_67 k1_68 k0_2 k1_69) rfl rfl rfl (by decide +kernel) ⟨Nat.le_of_ble_eq_true rfl, Nat.le_of_ble_eq_true rfl⟩) (zpv hE hS hA hK hP hD (va_recv hK hP (ci := 6) (q0 := 1) rfl (zg_rw _ _ _ _ _ _ _ _ _ _))) rfl rfl hl.1 rfl (lv_room (Nat.le_of_ble_eq_true rfl)) dX11_copy_109 ⟨Nat.zero_le _, Nat.zero_le _⟩) hD hS hA (fun H locs hP hD hS => ?_)
                refine lv_aload_n hx hb dX11_copy_112 rfl (lv_at hl 0 rfl) ?_
                refine lv_iload hx hb dX11_copy_113 (lv_at hl 5 rfl) ?_
                obtain ⟨u_18, hu_18, hF⟩ := zbd hF
                refine zcall_i (va_runV (As := [.int x5]) (rest := []) ⟨hx, hb, hml, hown, hts⟩ (qX11_fine l D E KL kc on u_17 rd ft tr la mo N _ x5 _ hu_18) (cwV 1 hts (zgV k1_30 k1_32 kp0_1 k0_1 k1_33) rfl rfl rfl (by decide +kernel) ⟨Nat.le_of_ble_eq_true rfl, Nat.le_of_ble_eq_true rfl⟩) (zpv hE hS hA hK hP hD (va_recv hK hP (ci := 10) (q0 := 0) rfl (zg_on _ _ _ _ _ _ _ _ _ _))) rfl rfl hl.1 rfl (lv_room (Nat.le_of_ble_eq_true rfl)) dX11_copy_115 ⟨Nat.zero_le _, Nat.zero_le _⟩) hD hS hA (fun H locs hP hD hS => ?_)
                obtain rfl := Option.some.inj hF
                exact hend _ _ _ _ hP hD hS dX11_copy_118
              · have hF := zit c_16 hF
                refine lv_aload_n hx hb dX11_copy_92 rfl (lv_at hl 0 rfl) ?_
                refine lv_iconst (v := 2) hx hb dX11_copy_93 (by decide) ?_
                obtain ⟨u_19, hu_19, hF⟩ := zbd hF
                refine zcall_i (va_runV (As := [.int (2 : Int32)]) (rest := []) ⟨hx, hb, hml, hown, hts⟩ (qX11_found l D E KL kc on rw rd ft tr la mo N _ (2 : Int32) _ hu_19) (cwV 1 hts (zgV k1_14 k1_16 kp0_0 k0_1 k1_17) rfl rfl rfl (by decide +kernel) ⟨Nat.le_of_ble_eq_true rfl, Nat.le_of_ble_eq_true rfl⟩) (zpv hE hS hA hK hP hD (va_recv hK hP (ci := 10) (q0 := 0) rfl (zg_on _ _ _ _ _ _ _ _ _ _))) rfl rfl hl.1 rfl (lv_room (Nat.le_of_ble_eq_true rfl)) dX11_copy_94 ⟨Nat.zero_le _, Nat.zero_le _⟩) hD hS hA (fun H locs hP hD hS => ?_)
                obtain rfl := Option.some.inj hF
                exact hend _ _ _ _ hP hD hS dX11_copy_97
          · have hF := zit c_11 hF
            refine lv_aload_n hx hb dX11_copy_57 rfl (lv_at hl 0 rfl) ?_
            refine lv_iconst (v := 5) hx hb dX11_copy_58 (by decide) ?_
            obtain ⟨u_20, hu_20, hF⟩ := zbd hF
            refine zcall_i (va_runV (As := [.int (5 : Int32)]) (rest := []) ⟨hx, hb, hml, hown, hts⟩ (qX11_found l D E KL kc on rw rd ft tr la mo N _ (5 : Int32) _ hu_20) (cwV 1 hts (zgV k1_14 k1_16 kp0_0 k0_1 k1_17) rfl rfl rfl (by decide +kernel) ⟨Nat.le_of_ble_eq_true rfl, Nat.le_of_ble_eq_true rfl⟩) (zpv hE hS hA hK hP hD (va_recv hK hP (ci := 10) (q0 := 0) rfl (zg_on _ _ _ _ _ _ _ _ _ _))) rfl rfl hl.1 rfl (lv_room (Nat.le_of_ble_eq_true rfl)) dX11_copy_59 ⟨Nat.zero_le _, Nat.zero_le _⟩) hD hS hA (fun H locs hP hD hS => ?_)
            obtain rfl := Option.some.inj hF
            exact hend _ _ _ _ hP hD hS dX11_copy_62
        · have hF := zif c_9 hF
          refine lv_aload_n hx hb dX11_copy_39 rfl (lv_at hl 0 rfl) ?_
          refine lv_iconst (v := 1) hx hb dX11_copy_40 (by decide) ?_
          obtain ⟨u_21, hu_21, hF⟩ := zbd hF
          refine zcall_i (va_runV (As := [.int (1 : Int32)]) (rest := []) ⟨hx, hb, hml, hown, hts⟩ (qX11_found l D E KL kc on rw rd ft tr la mo N _ (1 : Int32) _ hu_21) (cwV 1 hts (zgV k1_14 k1_16 kp0_0 k0_1 k1_17) rfl rfl rfl (by decide +kernel) ⟨Nat.le_of_ble_eq_true rfl, Nat.le_of_ble_eq_true rfl⟩) (zpv hE hS hA hK hP hD (va_recv hK hP (ci := 10) (q0 := 0) rfl (zg_on _ _ _ _ _ _ _ _ _ _))) rfl rfl hl.1 rfl (lv_room (Nat.le_of_ble_eq_true rfl)) dX11_copy_41 ⟨Nat.zero_le _, Nat.zero_le _⟩) hD hS hA (fun H locs hP hD hS => ?_)
          obtain rfl := Option.some.inj hF
          exact hend _ _ _ _ hP hD hS dX11_copy_44
    · have hF := zit c_4 hF
      refine lv_ldc (own := RX11) (v := -1000001) hx hb hown (zh hts k1_13) dX11_copy_14 ?_
      obtain rfl := Option.some.inj hF
      exact hend _ _ _ _ hP hD hS dX11_copy_16
def fX11_drop (N : Nat) (on : zNS) (rw : zOS) (x1 : Int32) : Option (Int32 × zNS × zOS) :=
  (fX7_isRow N x1).bind fun u_1 =>
  if u_1 = 0 then
    some ((-1000001 : Int32), on, rw)
  else
    (fX7_isMissing N rw x1).bind fun u_3 =>
    if u_3 = 0 then
      (fX7_remove N rw x1).bind fun u_5 =>
      (fX11_fine N on u_5.1).bind fun u_6 =>
      some (u_6.1, u_6.2, u_5.2)
    else
      (fX11_found N on (1 : Int32)).bind fun u_7 =>
      some (u_7.1, u_7.2, rw)
set_option maxHeartbeats 4000000 in
set_option maxRecDepth 100000 in
theorem qX11_drop (l : Launch) (D : va_G) (E : zE) (KL : List Nat) (kc : Nat → zKC) (on : zNS) (rw rd ft tr : zOS) (la : Nat → zLS) (mo : zMS) (N sz : Nat) (x1 : Int32) (out : Int32 × zNS × zOS) (hF : fX11_drop N on rw x1 = some out) : zCi l yX11_drop zwX11_drop ({ frames := 2, cells := 0, slots := 0, locals := 41 }) [.ref (E.1 0), .int x1] D E sz (zW E KL kc on rw rd ft tr la mo) (zW E KL kc out.2.1 out.2.2 rd ft tr la mo) out.1 0 0 := by
  refine zent_i (cc := cX11_drop) (nL := 2) (by decide) rfl (Nat.le_of_ble_eq_true rfl) ?_
  intro p e s m args below meth c Q A hx hb hml hown hts hA hK hP hD hS hE ls hl hend
  have hown : s.vm.findClass RX11 = some m.cls := hown
  have hl : lv_has ls 2 [(0, .ref (E.1 0)), (1, .int x1)] := hl
  rw [fX11_drop] at hF
  refine lv_iload_n hx hb dX11_drop_0 rfl (lv_at hl 1 rfl) ?_
  obtain ⟨u_1, hu_1, hF⟩ := zbd hF
  refine zcall_i (va_runS (As := [.int x1]) (rest := []) ⟨hx, hb, hml, hown, hts⟩ (qX7_isRow l D E KL kc on rw rd ft tr la mo N _ x1 _ hu_1) (va_cwS 1 hts (zgS k1_7 k1_8 k0_2 k1_9) rfl rfl rfl (by decide +kernel) ⟨Nat.le_of_ble_eq_true rfl, Nat.le_of_ble_eq_true rfl⟩) (zps hE hS hA hK hP hD) rfl rfl hl.1 rfl (lv_room (Nat.le_of_ble_eq_true rfl)) dX11_drop_1 ⟨Nat.zero_le _, Nat.zero_le _⟩) hD hS hA (fun H locs hP hD hS => ?_)
  refine lv_if_ne (tgt := 10) hx hb dX11_drop_4 (by decide) (fun c_2 => ?_) (fun c_2 => ?_)
  · have hF := zif c_2 hF
    refine lv_aload_n hx hb dX11_drop_10 rfl (lv_at hl 0 rfl) ?_
    refine va_get (D := D) (ci := 10) (v := .ref (E.1 1)) (C := RX11) (T := TX11) (N := 9) hx hb hts (zi iX11) hown hK hP 0 (zg_on _ _ _ _ _ _ _ _ _ _) rfl 0 (by decide) (zh hts k0_215) (fun _ h9 => h9) rfl dX11_drop_11 ?_
    refine lv_iload_n hx hb dX11_drop_14 rfl (lv_at hl 1 rfl) ?_
    obtain ⟨u_3, hu_3, hF⟩ := zbd hF
    refine zcall_i (va_runV (As := [.int x1]) (rest := []) ⟨hx, hb, hml, hown, hts⟩ (qX7_isMissing l D E KL kc on rw rd ft tr la mo N _ x1 _ hu_3) (cwV 1 hts (zgV k1_38 k1_39 k1_40 k0_2 k1_41) rfl rfl rfl (by decide +kernel) ⟨Nat.le_of_ble_eq_true rfl, Nat.le_of_ble_eq_true rfl⟩) (zpv hE hS hA hK hP hD (va_recv hK hP (ci := 6) (q0 := 1) rfl (zg_rw _ _ _ _ _ _ _ _ _ _))) rfl rfl hl.1 rfl (lv_room (Nat.le_of_ble_eq_true rfl)) dX11_drop_15 ⟨Nat.zero_le _, Nat.zero_le _⟩) hD hS hA (fun H locs hP hD hS => ?_)
    refine lv_if_eq (tgt := 27) hx hb dX11_drop_18 (by decide) (fun c_4 => ?_) (fun c_4 => ?_)
    · have hF := zit c_4 hF
      refine lv_aload_n hx hb dX11_drop_27 rfl (lv_at hl 0 rfl) ?_
      refine lv_aload_n hx hb dX11_drop_28 rfl (lv_at hl 0 rfl) ?_
      refine va_get (D := D) (ci := 10) (v := .ref (E.1 1)) (C := RX11) (T := TX11) (N := 9) hx hb hts (zi iX11) hown hK hP 0 (zg_on _ _ _ _ _ _ _ _ _ _) rfl 0 (by decide) (zh hts k0_215) (fun _ h9 => h9) rfl dX11_drop_29 ?_
      refine lv_iload_n hx hb dX11_drop_32 rfl (lv_at hl 1 rfl) ?_
      obtain ⟨u_5, hu_5, hF⟩ := zbd hF
      refine zcall_i (va_runV (As := [.int x1]) (rest := [.ref (E.1 0)]) ⟨hx, hb, hml, hown, hts⟩ (qX7_remove l D E KL kc on rw rd ft tr la mo N _ x1 _ hu_5) (cwV 1 hts (zgV k1_78 k1_79 k1_80 k0_2 k1_81) rfl rfl rfl (by decide +kernel) ⟨Nat.le_of_ble_eq_true rfl, Nat.le_of_ble_eq_true rfl⟩) (zpv hE hS hA hK hP hD (va_recv hK hP (ci := 6) (q0 := 1) rfl (zg_rw _ _ _ _ _ _ _ _ _ _))) rfl rfl hl.1 rfl (lv_room (Nat.le_of_ble_eq_true rfl)) dX11_drop_33 ⟨Nat.zero_le _, Nat.zero_le _⟩) hD hS hA (fun H locs hP hD hS => ?_)
      obtain ⟨u_6, hu_6, hF⟩ := zbd hF
      refine zcall_i (va_runV (As := [.int u_5.1]) (rest := []) ⟨hx, hb, hml, hown, hts⟩ (qX11_fine l D E KL kc on u_5.2 rd ft tr la mo N _ u_5.1 _ hu_6) (cwV 1 hts (zgV k1_30 k1_32 kp0_1 k0_1 k1_33) rfl rfl rfl (by decide +kernel) ⟨Nat.le_of_ble_eq_true rfl, Nat.le_of_ble_eq_true rfl⟩) (zpv hE hS hA hK hP hD (va_recv hK hP (ci := 10) (q0 := 0) rfl (zg_on _ _ _ _ _ _ _ _ _ _))) rfl rfl hl.1 rfl (lv_room (Nat.le_of_ble_eq_true rfl)) dX11_drop_36 ⟨Nat.zero_le _, Nat.zero_le _⟩) hD hS hA (fun H locs hP hD hS => ?_)
      obtain rfl := Option.some.inj hF
      exact hend _ _ _ _ hP hD hS dX11_drop_39
    · have hF := zif c_4 hF
      refine lv_aload_n hx hb dX11_drop_21 rfl (lv_at hl 0 rfl) ?_
      refine lv_iconst (v := 1) hx hb dX11_drop_22 (by decide) ?_
      obtain ⟨u_7, hu_7, hF⟩ := zbd hF
      refine zcall_i (va_runV (As := [.int (1 : Int32)]) (rest := []) ⟨hx, hb, hml, hown, hts⟩ (qX11_found l D E KL kc on rw rd ft tr la mo N _ (1 : Int32) _ hu_7) (cwV 1 hts (zgV k1_14 k1_16 kp0_0 k0_1 k1_17) rfl rfl rfl (by decide +kernel) ⟨Nat.le_of_ble_eq_true rfl, Nat.le_of_ble_eq_true rfl⟩) (zpv hE hS hA hK hP hD (va_recv hK hP (ci := 10) (q0 := 0) rfl (zg_on _ _ _ _ _ _ _ _ _ _))) rfl rfl hl.1 rfl (lv_room (Nat.le_of_ble_eq_true rfl)) dX11_drop_23 ⟨Nat.zero_le _, Nat.zero_le _⟩) hD hS hA (fun H locs hP hD hS => ?_)
      obtain rfl := Option.some.inj hF
      exact hend _ _ _ _ hP hD hS dX11_drop_26
  · have hF := zit c_2 hF
    refine lv_ldc (own := RX11) (v := -1000001) hx hb hown (zh hts k1_13) dX11_drop_7 ?_
    obtain rfl := Option.some.inj hF
    exact hend _ _ _ _ hP hD hS dX11_drop_9
def fX11_feed (N : Nat) (rd : zOS) (x1 : Int64) (x3 : Int32) : Option (Int32 × zOS) :=
  (fX11_within N x3 (1 : Int32) (8 : Int32)).bind fun u_1 =>
  if u_1 = 0 then
    some ((-1000001 : Int32), rd)
  else
    (fX6_append N rd x1 x3).bind fun u_3 =>
    if u_3.1 = 0 then
      some ((-1000003 : Int32), u_3.2)
    else
      some (u_3.2.1 0, u_3.2)
set_option maxHeartbeats 4000000 in
set_option maxRecDepth 100000 in
theorem qX11_feed (l : Launch) (D : va_G) (E : zE) (KL : List Nat) (kc : Nat → zKC) (on : zNS) (rw rd ft tr : zOS) (la : Nat → zLS) (mo : zMS) (N sz : Nat) (x1 : Int64) (x3 : Int32) (out : Int32 × zOS) (hF : fX11_feed N rd x1 x3 = some out) : zCi l yX11_feed zwX11_feed ({ frames := 1, cells := 0, slots := 0, locals := 24 }) [.ref (E.1 0), .long x1, .int x3] D E sz (zW E KL kc on rw rd ft tr la mo) (zW E KL kc on rw out.2 ft tr la mo) out.1 0 0 := by
  refine zent_i (cc := cX11_feed) (nL := 4) (by decide) rfl (Nat.le_of_ble_eq_true rfl) ?_
  intro p e s m args below meth c Q A hx hb hml hown hts hA hK hP hD hS hE ls hl hend
  have hown : s.vm.findClass RX11 = some m.cls := hown
  have hl : lv_has ls 4 [(0, .ref (E.1 0)), (1, .long x1), (3, .int x3)] := hl
  rw [fX11_feed] at hF
  refine lv_iload_n hx hb dX11_feed_0 rfl (lv_at hl 2 rfl) ?_
  refine lv_iconst (v := 1) hx hb dX11_feed_1 (by decide) ?_
  refine lv_bipush (v := 8) hx hb dX11_feed_2 (by decide) ?_
  obtain ⟨u_1, hu_1, hF⟩ := zbd hF
  refine zcall_i (va_runS (As := [.int x3, .int (1 : Int32), .int (8 : Int32)]) (rest := []) ⟨hx, hb, hml, hown, hts⟩ (qX11_within l D E KL kc on rw rd ft tr la mo N _ x3 (1 : Int32) (8 : Int32) _ hu_1) (va_cwS 3 hts (zgS k1_10 k1_11 k0_1 k1_12) rfl rfl rfl (by decide +kernel) ⟨Nat.le_of_ble_eq_true rfl, Nat.le_of_ble_eq_true rfl⟩) (zps hE hS hA hK hP hD) rfl rfl hl.1 rfl (lv_room (Nat.le_of_ble_eq_true rfl)) dX11_feed_4 ⟨Nat.zero_le _, Nat.zero_le _⟩) hD hS hA (fun H locs hP hD hS => ?_)
  refine lv_if_ne (tgt := 13) hx hb dX11_feed_7 (by decide) (fun c_2 => ?_) (fun c_2 => ?_)
  · have hF := zif c_2 hF
    refine lv_aload_n hx hb dX11_feed_13 rfl (lv_at hl 0 rfl) ?_
    refine va_get (D := D) (ci := 10) (v := .ref (E.1 5)) (C := RX11) (T := TX11) (N := 9) hx hb hts (zi iX11) hown hK hP 0 (zg_on _ _ _ _ _ _ _ _ _ _) rfl 1 (by decide) (zh hts k0_216) (fun _ h9 => h9) rfl dX11_feed_14 ?_
    refine lv_lload_n hx hb dX11_feed_17 rfl (lv_at hl 1 rfl) ?_
    refine lv_iload_n hx hb dX11_feed_18 rfl (lv_at hl 2 rfl) ?_
    obtain ⟨u_3, hu_3, hF⟩ := zbd hF
    refine zcall_i (va_runV (As := [.long x1, .int x3]) (rest := []) ⟨hx, hb, hml, hown, hts⟩ (qX6_append l D E KL kc on rw rd ft tr la mo N _ x1 x3 _ hu_3) (cwV 2 hts (zgV k1_86 k1_87 k1_88 k0_4 k1_89) rfl rfl rfl (by decide +kernel) ⟨Nat.le_of_ble_eq_true rfl, Nat.le_of_ble_eq_true rfl⟩) (zpv hE hS hA hK hP hD (va_recv hK hP (ci := 5) (q0 := 5) rfl (zg_rd _ _ _ _ _ _ _ _ _ _))) rfl rfl hl.1 rfl (lv_room (Nat.le_of_ble_eq_true rfl)) dX11_feed_19 ⟨Nat.zero_le _, Nat.zero_le _⟩) hD hS hA (fun H locs hP hD hS => ?_)
    refine lv_if_eq (tgt := 35) hx hb dX11_feed_22 (by decide) (fun c_4 => ?_) (fun c_4 => ?_)
    · have hF := zit c_4 hF
      refine lv_ldc (own := RX11) (v := -1000003) hx hb hown (zh hts k1_90) dX11_feed_35 ?_
      obtain rfl := Option.some.inj hF
      exact hend _ _ _ _ hP hD hS dX11_feed_37
    · have hF := zif c_4 hF
      refine lv_aload_n hx hb dX11_feed_25 rfl (lv_at hl 0 rfl) ?_
      refine va_get (D := D) (ci := 10) (v := .ref (E.1 5)) (C := RX11) (T := TX11) (N := 9) hx hb hts (zi iX11) hown hK hP 0 (zg_on _ _ _ _ _ _ _ _ _ _) rfl 1 (by decide) (zh hts k0_216) (fun _ h9 => h9) rfl dX11_feed_26 ?_
      refine va_get (D := D) (ci := 5) (v := .int (u_3.2.1 0)) (C := RX6) (T := TX6) (N := 8) hx hb hts (zi iX6) hown hK hP 5 (zg_rd _ _ _ _ _ _ _ _ _ _) rfl 0 (by decide) (zh hts k0_56) (fun _ h9 => h9) rfl dX11_feed_29 ?_
      refine lv_goto (tgt := 37) hx hb dX11_feed_32 (by decide) ?_
      obtain rfl := Option.some.inj hF
      exact hend _ _ _ _ hP hD hS dX11_feed_37
  · have hF := zit c_2 hF
    refine lv_ldc (own := RX11) (v := -1000001) hx hb hown (zh hts k1_13) dX11_feed_10 ?_
    obtain rfl := Option.some.inj hF
    exact hend _ _ _ _ hP hD hS dX11_feed_12
def fX11_value (N : Nat) (L : zLS) (x1 : Int32) : Option Int32 :=
  (fX4_isTold N L).bind fun u_2 =>
  if u_2 = 0 then
    some (-1000002 : Int32)
  else
    (fX11_within N x1 (0 : Int32) (999 : Int32)).bind fun u_4 =>
    if u_4 = 0 then
      some (-1000001 : Int32)
    else
      (fX4_valueAt N L x1).bind fun u_7 =>
      some u_7
set_option maxHeartbeats 4000000 in
set_option maxRecDepth 100000 in
theorem qX11_value (l : Launch) (D : va_G) (E : zE) (KL : List Nat) (kc : Nat → zKC) (on : zNS) (rw rd ft tr : zOS) (la : Nat → zLS) (mo : zMS) (hj : on.2.1 < 5) (L : zLS) (N sz : Nat) (x1 : Int32) (out : Int32) (hF : fX11_value N L x1 = some out) : zCi l yX11_value zwX11_value ({ frames := 2, cells := 0, slots := 0, locals := 47 }) [.ref (E.1 0), .int x1] D E sz (zW E KL kc on rw rd ft tr (va_up la on.2.1 L) mo) (zW E KL kc on rw rd ft tr (va_up la on.2.1 L) mo) out 0 0 := by
  refine zent_i (cc := cX11_value) (nL := 2) (by decide) rfl (Nat.le_of_ble_eq_true rfl) ?_
  intro p e s m args below meth c Q A hx hb hml hown hts hA hK hP hD hS hE ls hl hend
  have hown : s.vm.findClass RX11 = some m.cls := hown
  have hl : lv_has ls 2 [(0, .ref (E.1 0)), (1, .int x1)] := hl
  rw [fX11_value] at hF
  refine lv_aload_n hx hb dX11_value_0 rfl (lv_at hl 0 rfl) ?_
  refine va_get (D := D) (ci := 10) (v := .ref (E.1 (13 + 11 * on.2.1))) (C := RX11) (T := TX11) (N := 9) hx hb hts (zi iX11) hown hK hP 0 (zg_on _ _ _ _ _ _ _ _ _ _) rfl 6 (by decide) (zh hts k0_221) (fun _ h9 => h9) rfl dX11_value_1 ?_
  have hrv_1 := (va_recv hK hP (ci := 3) (q0 := 13 + 11 * on.2.1) rfl (zg_L _ _ _ _ _ _ _ _ _ _ hj _))
  obtain ⟨u_2, hu_2, hF⟩ := zbd hF
  refine zcall_i (va_runV (As := []) (rest := []) ⟨hx, hb, hml, hown, hts⟩ (qX4_isTold l D E KL kc on rw rd ft tr la mo on.2.1 hj L N _ _ hu_2) (cwV 0 hts (zgV k2_100 k2_101 k2_102 k0_6 k2_103) rfl rfl rfl (by decide +kernel) ⟨Nat.le_of_ble_eq_true rfl, Nat.le_of_ble_eq_true rfl⟩) (zpv hE hS hA hK hP hD hrv_1) rfl rfl hl.1 rfl (lv_room (Nat.le_of_ble_eq_true rfl)) dX11_value_4 ⟨Nat.zero_le _, Nat.zero_le _⟩) hD hS hA (fun H locs hP hD hS => ?_)
  refine lv_if_ne (tgt := 13) hx hb dX11_value_7 (by decide) (fun c_3 => ?_) (fun c_3 => ?_)
  · have hF := zif c_3 hF
    refine lv_iload_n hx hb dX11_value_13 rfl (lv_at hl 1 rfl) ?_
    refine lv_iconst (v := 0) hx hb dX11_value_14 (by decide) ?_
    refine lv_sipush (v := 999) hx hb dX11_value_15 (by decide) ?_
    obtain ⟨u_4, hu_4, hF⟩ := zbd hF
    refine zcall_i (va_runS (As := [.int x1, .int (0 : Int32), .int (999 : Int32)]) (rest := []) ⟨hx, hb, hml, hown, hts⟩ (qX11_within l D E KL kc on rw rd ft tr (va_up la on.2.1 L) mo N _ x1 (0 : Int32) (999 : Int32) _ hu_4) (va_cwS 3 hts (zgS k1_10 k1_11 k0_1 k1_12) rfl rfl rfl (by decide +kernel) ⟨Nat.le_of_ble_eq_true rfl, Nat.le_of_ble_eq_true rfl⟩) (zps hE hS hA hK hP hD) rfl rfl hl.1 rfl (lv_room (Nat.le_of_ble_eq_true rfl)) dX11_value_18 ⟨Nat.zero_le _, Nat.zero_le _⟩) hD hS hA (fun H locs hP hD hS => ?_)
    refine lv_if_eq (tgt := 35) hx hb dX11_value_21 (by decide) (fun c_5 => ?_) (fun c_5 => ?_)
    · have hF := zit c_5 hF
      refine lv_ldc (own := RX11) (v := -1000001) hx hb hown (zh hts k1_13) dX11_value_35 ?_
      obtain rfl := Option.some.inj hF
      exact hend _ _ _ _ hP hD hS dX11_value_37
    · have hF := zif c_5 hF
      refine lv_aload_n hx hb dX11_value_24 rfl (lv_at hl 0 rfl) ?_
      refine va_get (D := D) (ci := 10) (v := .ref (E.1 (13 + 11 * on.2.1))) (C := RX11) (T := TX11) (N := 9) hx hb hts (zi iX11) hown hK hP 0 (zg_on _ _ _ _ _ _ _ _ _ _) rfl 6 (by decide) (zh hts k0_221) (fun _ h9 => h9) rfl dX11_value_25 ?_
      refine lv_iload_n hx hb dX11_value_28 rfl (lv_at hl 1 rfl) ?_
      have hrv_6 := (va_recv hK hP (ci := 3) (q0 := 13 + 11 * on.2.1) rfl (zg_L _ _ _ _ _ _ _ _ _ _ hj _))
      obtain ⟨u_7, hu_7, hF⟩ := zbd hF
      refine zcall_i (va_runV (As := [.int x1]) (rest := []) ⟨hx, hb, hml, hown, hts⟩ (qX4_valueAt l D E KL kc on rw rd ft tr la mo on.2.1 hj L N _ x1 _ hu_7) (cwV 1 hts (zgV k2_105 k2_106 k2_107 k0_6 k2_108) rfl rfl rfl (by decide +kernel) ⟨Nat.le_of_ble_eq_true rfl, Nat.le_of_ble_eq_true rfl⟩) (zpv hE hS hA hK hP hD hrv_6) rfl rfl hl.1 rfl (lv_room (Nat.le_of_ble_eq_true rfl)) dX11_value_29 ⟨Nat.zero_le _, Nat.zero_le _⟩) hD hS hA (fun H locs hP hD hS => ?_)
      refine lv_goto (tgt := 37) hx hb dX11_value_32 (by decide) ?_
      obtain rfl := Option.some.inj hF
      exact hend _ _ _ _ hP hD hS dX11_value_37
  · have hF := zit c_3 hF
    refine lv_ldc (own := RX11) (v := -1000002) hx hb hown (zh hts k2_104) dX11_value_10 ?_
    obtain rfl := Option.some.inj hF
    exact hend _ _ _ _ hP hD hS dX11_value_12
def fX11_piece (N : Nat) (L : zLS) (x1 : Int32) (x2 : Int32) : Option Int32 :=
  (fX4_isPiece N L x1).bind fun u_2 =>
  if u_2 = 0 then
    some (-1000001 : Int32)
  else
    if x2 = 0 then
      (fX4_useOf N L x1).bind fun u_6 =>
      some u_6
    else if x2 = 1 then
      (fX4_keepersWith N L x1).bind fun u_9 =>
      some u_9
    else if x2 = 2 then
      (fX4_knownBy N L x1).bind fun u_12 =>
      some u_12
    else if x2 = 3 then
      (fX4_firstSale N L x1).bind fun u_15 =>
      some u_15
    else if x2 = 4 then
      (fX4_hadBy N L x1).bind fun u_18 =>
      (fX4_worthIn N L (L.1.1 8) u_18).bind fun u_20 =>
      some u_20
    else 
      some (-1000001 : Int32)
set_option maxHeartbeats 4000000 in
set_option maxRecDepth 100000 in
theorem qX11_piece (l : Launch) (D : va_G) (E : zE) (KL : List Nat) (kc : Nat → zKC) (on : zNS) (rw rd ft tr : zOS) (la : Nat → zLS) (mo : zMS) (hj : on.2.1 < 5) (L : zLS) (N sz : Nat) (x1 : Int32) (x2 : Int32) (out : Int32) (hF : fX11_piece N L x1 x2 = some out) : zCi l yX11_piece zwX11_piece ({ frames := 3, cells := 0, slots := 0, locals := 69 }) [.ref (E.1 0), .int x1, .int x2] D E sz (zW E KL kc on rw rd ft tr (va_up la on.2.1 L) mo) (zW E KL kc on rw rd ft tr (va_up la on.2.1 L) mo) out 0 0 := by
  refine zent_i (cc := cX11_piece) (nL := 3) (by decide) rfl (Nat.le_of_ble_eq_true rfl) ?_
  intro p e s m args below meth c Q A hx hb hml hown hts hA hK hP hD hS hE ls hl hend
  have hown : s.vm.findClass RX11 = some m.cls := hown
  have hl : lv_has ls 3 [(0, .ref (E.1 0)), (1, .int x1), (2, .int x2)] := hl
  rw [fX11_piece] at hF
  refine lv_aload_n hx hb dX11_piece_0 rfl (lv_at hl 0 rfl) ?_
  refine va_get (D := D) (ci := 10) (v := .ref (E.1 (13 + 11 * on.2.1))) (C := RX11) (T := TX11) (N := 9) hx hb hts (zi iX11) hown hK hP 0 (zg_on _ _ _ _ _ _ _ _ _ _) rfl 6 (by decide) (zh hts k0_221) (fun _ h9 => h9) rfl dX11_piece_1 ?_
  refine lv_iload_n hx hb dX11_piece_4 rfl (lv_at hl 1 rfl) ?_
  have hrv_1 := (va_recv hK hP (ci := 3) (q0 := 13 + 11 * on.2.1) rfl (zg_L _ _ _ _ _ _ _ _ _ _ hj _))
  obtain ⟨u_2, hu_2, hF⟩ := zbd hF
  refine zcall_i (va_runV (As := [.int x1]) (rest := []) ⟨hx, hb, hml, hown, hts⟩ (qX4_isPiece l D E KL kc on rw rd ft tr la mo on.2.1 hj L N _ x1 _ hu_2) (cwV 1 hts (zgV k2_213 k2_174 k2_175 k0_6 k2_176) rfl rfl rfl (by decide +kernel) ⟨Nat.le_of_ble_eq_true rfl, Nat.le_of_ble_eq_true rfl⟩) (zpv hE hS hA hK hP hD hrv_1) rfl rfl hl.1 rfl (lv_room (Nat.le_of_ble_eq_true rfl)) dX11_piece_5 ⟨Nat.zero_le _, Nat.zero_le _⟩) hD hS hA (fun H locs hP hD hS => ?_)
  refine lv_if_ne (tgt := 14) hx hb dX11_piece_8 (by decide) (fun c_3 => ?_) (fun c_3 => ?_)
  · have hF := zif c_3 hF
    refine lv_iload_n hx hb dX11_piece_14 rfl (lv_at hl 2 rfl) ?_
    by_cases c_4 : x2 = 0
    · have hF := zit c_4 hF
      refine lv_tableIn (off := 33) (tgt := 48) hx hb dX11_piece_15 (by rw [c_4]; decide) (by rw [c_4]; decide) (by rw [c_4]; decide) (by decide) ?_
      refine lv_aload_n hx hb dX11_piece_48 rfl (lv_at hl 0 rfl) ?_
      refine va_get (D := D) (ci := 10) (v := .ref (E.1 (13 + 11 * on.2.1))) (C := RX11) (T := TX11) (N := 9) hx hb hts (zi iX11) hown hK hP 0 (zg_on _ _ _ _ _ _ _ _ _ _) rfl 6 (by decide) (zh hts k0_221) (fun _ h9 => h9) rfl dX11_piece_49 ?_
      refine lv_iload_n hx hb dX11_piece_52 rfl (lv_at hl 1 rfl) ?_
      have hrv_5 := (va_recv hK hP (ci := 3) (q0 := 13 + 11 * on.2.1) rfl (zg_L _ _ _ _ _ _ _ _ _ _ hj _))
      obtain ⟨u_6, hu_6, hF⟩ := zbd hF
      refine zcall_i (va_runV (As := [.int x1]) (rest := []) ⟨hx, hb, hml, hown, hts⟩ (qX4_useOf l D E KL kc on rw rd ft tr la mo on.2.1 hj L N _ x1 _ hu_6) (cwV 1 hts (zgV k2_239 k3_0 k3_1 k0_6 k3_2) rfl rfl rfl (by decide +kernel) ⟨Nat.le_of_ble_eq_true rfl, Nat.le_of_ble_eq_true rfl⟩) (zpv hE hS hA hK hP hD hrv_5) rfl rfl hl.1 rfl (lv_room (Nat.le_of_ble_eq_true rfl)) dX11_piece_53 ⟨Nat.zero_le _, Nat.zero_le _⟩) hD hS hA (fun H locs hP hD hS => ?_)
      obtain rfl := Option.some.inj hF
      exact hend _ _ _ _ hP hD hS dX11_piece_56
    · have hF := zif c_4 hF
      by_cases c_7 : x2 = 1
      · have hF := zit c_7 hF
        refine lv_tableIn (off := 42) (tgt := 57) hx hb dX11_piece_15 (by rw [c_7]; decide) (by rw [c_7]; decide) (by rw [c_7]; decide) (by decide) ?_
        refine lv_aload_n hx hb dX11_piece_57 rfl (lv_at hl 0 rfl) ?_
        refine va_get (D := D) (ci := 10) (v := .ref (E.1 (13 + 11 * on.2.1))) (C := RX11) (T := TX11) (N := 9) hx hb hts (zi iX11) hown hK hP 0 (zg_on _ _ _ _ _ _ _ _ _ _) rfl 6 (by decide) (zh hts k0_221) (fun _ h9 => h9) rfl dX11_piece_58 ?_
        refine lv_iload_n hx hb dX11_piece_61 rfl (lv_at hl 1 rfl) ?_
        have hrv_8 := (va_recv hK hP (ci := 3) (q0 := 13 + 11 * on.2.1) rfl (zg_L _ _ _ _ _ _ _ _ _ _ hj _))
        obtain ⟨u_9, hu_9, hF⟩ := zbd hF
        refine zcall_i (va_runV (As := [.int x1]) (rest := []) ⟨hx, hb, hml, hown, hts⟩ (qX4_keepersWith l D E KL kc on rw rd ft tr la mo on.2.1 hj L N _ x1 _ hu_9) (cwV 1 hts (zgV k3_3 k2_182 k2_183 k0_6 k2_184) rfl rfl rfl (by decide +kernel) ⟨Nat.le_of_ble_eq_true rfl, Nat.le_of_ble_eq_true rfl⟩) (zpv hE hS hA hK hP hD hrv_8) rfl rfl hl.1 rfl (lv_room (Nat.le_of_ble_eq_true rfl)) dX11_piece_62 ⟨Nat.zero_le _, Nat.zero_le _⟩) hD hS hA (fun H locs hP hD hS => ?_)
        obtain rfl := Option.some.inj hF
        exact hend _ _ _ _ hP hD hS dX11_piece_65
      · have hF := zif c_7 hF
        by_cases c_10 : x2 = 2
        · have hF := zit c_10 hF
          refine lv_tableIn (off := 51) (tgt := 66) hx hb dX11_piece_15 (by rw [c_10]; decide) (by rw [c_10]; decide) (by rw [c_10]; decide) (by decide) ?_
          refine lv_aload_n hx hb dX11_piece_66 rfl (lv_at hl 0 rfl) ?_
          refine va_get (D := D) (ci := 10) (v := .ref (E.1 (13 + 11 * on.2.1))) (C := RX11) (T := TX11) (N := 9) hx hb hts (zi iX11) hown hK hP 0 (zg_on _ _ _ _ _ _ _ _ _ _) rfl 6 (by decide) (zh hts k0_221) (fun _ h9 => h9) rfl dX11_piece_67 ?_
          refine lv_iload_n hx hb dX11_piece_70 rfl (lv_at hl 1 rfl) ?_
          have hrv_11 := (va_recv hK hP (ci := 3) (q0 := 13 + 11 * on.2.1) rfl (zg_L _ _ _ _ _ _ _ _ _ _ hj _))
          obtain ⟨u_12, hu_12, hF⟩ := zbd hF
          refine zcall_i (va_runV (As := [.int x1]) (rest := []) ⟨hx, hb, hml, hown, hts⟩ (qX4_knownBy l D E KL kc on rw rd ft tr la mo on.2.1 hj L N _ x1 _ hu_12) (cwV 1 hts (zgV k3_4 k2_186 k2_187 k0_6 k2_188) rfl rfl rfl (by decide +kernel) ⟨Nat.le_of_ble_eq_true rfl, Nat.le_of_ble_eq_true rfl⟩) (zpv hE hS hA hK hP hD hrv_11) rfl rfl hl.1 rfl (lv_room (Nat.le_of_ble_eq_true rfl)) dX11_piece_71 ⟨Nat.zero_le _, Nat.zero_le _⟩) hD hS hA (fun H locs hP hD hS => ?_)
          obtain rfl := Option.some.inj hF
          exact hend _ _ _ _ hP hD hS dX11_piece_74
        · have hF := zif c_10 hF
          by_cases c_13 : x2 = 3
          · have hF := zit c_13 hF
            refine lv_tableIn (off := 60) (tgt := 75) hx hb dX11_piece_15 (by rw [c_13]; decide) (by rw [c_13]; decide) (by rw [c_13]; decide) (by decide) ?_
            refine lv_aload_n hx hb dX11_piece_75 rfl (lv_at hl 0 rfl) ?_
            refine va_get (D := D) (ci := 10) (v := .ref (E.1 (13 + 11 * on.2.1))) (C := RX11) (T := TX11) (N := 9) hx hb hts (zi iX11) hown hK hP 0 (zg_on _ _ _ _ _ _ _ _ _ _) rfl 6 (by decide) (zh hts k0_221) (fun _ h9 => h9) rfl dX11_piece_76 ?_
            refine lv_iload_n hx hb dX11_piece_79 rfl (lv_at hl 1 rfl) ?_
            have hrv_14 := (va_recv hK hP (ci := 3) (q0 := 13 + 11 * on.2.1) rfl (zg_L _ _ _ _ _ _ _ _ _ _ hj _))
            obtain ⟨u_15, hu_15, hF⟩ := zbd hF
            refine zcall_i (va_runV (As := [.int x1]) (rest := []) ⟨hx, hb, hml, hown, hts⟩ (qX4_firstSale l D E KL kc on rw rd ft tr la mo on.2.1 hj L N _ x1 _ hu_15) (cwV 1 hts (zgV k3_5 k3_6 k3_7 k0_6 k3_8) rfl rfl rfl (by decide +kernel) ⟨Nat.le_of_ble_eq_true rfl, Nat.le_of_ble_eq_true rfl⟩) (zpv hE hS hA hK hP hD hrv_14) rfl rfl hl.1 rfl (lv_room (Nat.le_of_ble_eq_true rfl)) dX11_piece_80 ⟨Nat.zero_le _, Nat.zero_le _⟩) hD hS hA (fun H locs hP hD hS => ?_)
            obtain rfl := Option.some.inj hF
            exact hend _ _ _ _ hP hD hS dX11_piece_83
          · have hF := zif c_13 hF
            by_cases c_16 : x2 = 4
            · have hF := zit c_16 hF
              refine lv_tableIn (off := 69) (tgt := 84) hx hb dX11_piece_15 (by rw [c_16]; decide) (by rw [c_16]; decide) (by rw [c_16]; decide) (by decide) ?_
              refine lv_aload_n hx hb dX11_piece_84 rfl (lv_at hl 0 rfl) ?_
              refine va_get (D := D) (ci := 10) (v := .ref (E.1 (13 + 11 * on.2.1))) (C := RX11) (T := TX11) (N := 9) hx hb hts (zi iX11) hown hK hP 0 (zg_on _ _ _ _ _ _ _ _ _ _) rfl 6 (by decide) (zh hts k0_221) (fun _ h9 => h9) rfl dX11_piece_85 ?_
              refine lv_aload_n hx hb dX11_piece_88 rfl (lv_at hl 0 rfl) ?_
              refine va_get (D := D) (ci := 10) (v := .ref (E.1 (13 + 11 * on.2.1))) (C := RX11) (T := TX11) (N := 9) hx hb hts (zi iX11) hown hK hP 0 (zg_on _ _ _ _ _ _ _ _ _ _) rfl 6 (by decide) (zh hts k0_221) (fun _ h9 => h9) rfl dX11_piece_89 ?_
              refine va_get (D := D) (ci := 3) (v := .int (L.1.1 8)) (C := RX4) (T := TX4) (N := 19) hx hb hts (zi iX4) hown hK hP (13 + 11 * on.2.1) (zg_L _ _ _ _ _ _ _ _ _ _ hj _) rfl 8 (by decide) (zh hts k0_126) (fun _ h9 => h9) rfl dX11_piece_92 ?_
              refine lv_aload_n hx hb dX11_piece_95 rfl (lv_at hl 0 rfl) ?_
              refine va_get (D := D) (ci := 10) (v := .ref (E.1 (13 + 11 * on.2.1))) (C := RX11) (T := TX11) (N := 9) hx hb hts (zi iX11) hown hK hP 0 (zg_on _ _ _ _ _ _ _ _ _ _) rfl 6 (by decide) (zh hts k0_221) (fun _ h9 => h9) rfl dX11_piece_96 ?_
              refine lv_iload_n hx hb dX11_piece_99 rfl (lv_at hl 1 rfl) ?_
              have hrv_17 := (va_recv hK hP (ci := 3) (q0 := 13 + 11 * on.2.1) rfl (zg_L _ _ _ _ _ _ _ _ _ _ hj _))
              obtain ⟨u_18, hu_18, hF⟩ := zbd hF
              refine zcall_i (va_runV (As := [.int x1]) (rest := [.int (L.1.1 8), .ref (E.1 (13 + 11 * on.2.1))]) ⟨hx, hb, hml, hown, hts⟩ (qX4_hadBy l D E KL kc on rw rd ft tr la mo on.2.1 hj L N _ x1 _ hu_18) (cwV 1 hts (zgV k3_9 k2_178 k2_179 k0_6 k2_180) rfl rfl rfl (by decide +kernel) ⟨Nat.le_of_ble_eq_true rfl, Nat.le_of_ble_eq_true rfl⟩) (zpv hE hS hA hK hP hD hrv_17) rfl rfl hl.1 rfl (lv_room (Nat.le_of_ble_eq_true rfl)) dX11_piece_100 ⟨Nat.zero_le _, Nat.zero_le _⟩) hD hS hA (fun H locs hP hD hS => ?_)
              have hrv_19 := (va_recv hK hP (ci := 3) (q0 := 13 + 11 * on.2.1) rfl (zg_L _ _ _ _ _ _ _ _ _ _ hj _))
              obtain ⟨u_20, hu_20, hF⟩ := zbd hF
              refine zcall_i (va_runV (As := [.int (L.1.1 8), .int u_18]) (rest := []) ⟨hx, hb, hml, hown, hts⟩ (qX4_worthIn l D E KL kc on rw rd ft tr la mo on.2.1 hj L N _ (L.1.1 8) u_18 _ hu_20) (cwV 2 hts (zgV k3_10 k2_190 k2_191 k0_6 k2_192) rfl rfl rfl (by decide +kernel) ⟨Nat.le_of_ble_eq_true rfl, Nat.le_of_ble_eq_true rfl⟩) (zpv hE hS hA hK hP hD hrv_19) rfl rfl hl.1 rfl (lv_room (Nat.le_of_ble_eq_true rfl)) dX11_piece_103 ⟨Nat.zero_le _, Nat.zero_le _⟩) hD hS hA (fun H locs hP hD hS => ?_)
              obtain rfl := Option.some.inj hF
              exact hend _ _ _ _ hP hD hS dX11_piece_106
            · have hF := zif c_16 hF
              refine lv_tableOut (tgt := 107) hx hb dX11_piece_15 (ztab_0_4 c_4 c_7 c_10 c_13 c_16) (by decide) ?_
              refine lv_ldc (own := RX11) (v := -1000001) hx hb hown (zh hts k1_13) dX11_piece_107 ?_
              obtain rfl := Option.some.inj hF
              exact hend _ _ _ _ hP hD hS dX11_piece_109
  · have hF := zit c_3 hF
    refine lv_ldc (own := RX11) (v := -1000001) hx hb hown (zh hts k1_13) dX11_piece_11 ?_
    obtain rfl := Option.some.inj hF
    exact hend _ _ _ _ hP hD hS dX11_piece_13
def fX11_think (N : Nat) (x1 : Int32) (x2 : Int32) (x3 : Int32) : Option Int32 :=
  (fX11_within N x1 (0 : Int32) (1000 : Int32)).bind fun u_1 =>
  if u_1 = 0 then
    some (-1000001 : Int32)
  else
    (fX11_within N x2 (0 : Int32) (1000 : Int32)).bind fun u_3 =>
    if u_3 = 0 then
      some (-1000001 : Int32)
    else
      (fX11_within N x3 (0 : Int32) (60 : Int32)).bind fun u_5 =>
      if u_5 = 0 then
        some (-1000001 : Int32)
      else
        (fX2_thought N x1 x2 x3).bind fun u_7 =>
        some u_7
set_option maxHeartbeats 4000000 in
set_option maxRecDepth 100000 in
theorem qX11_think (l : Launch) (D : va_G) (E : zE) (KL : List Nat) (kc : Nat → zKC) (on : zNS) (rw rd ft tr : zOS) (la : Nat → zLS) (mo : zMS) (N sz : Nat) (x1 : Int32) (x2 : Int32) (x3 : Int32) (out : Int32) (hF : fX11_think N x1 x2 x3 = some out) : zCi l yX11_think zwX11_think ({ frames := 1, cells := 0, slots := 0, locals := 25 }) [.ref (E.1 0), .int x1, .int x2, .int x3] D E sz (zW E KL kc on rw rd ft tr la mo) (zW E KL kc on rw rd ft tr la mo) out 0 0 := by
  refine zent_i (cc := cX11_think) (nL := 4) (by decide) rfl (Nat.le_of_ble_eq_true rfl) ?_
  intro p e s m args below meth c Q A hx hb hml hown hts hA hK hP hD hS hE ls hl hend
  have hown : s.vm.findClass RX11 = some m.cls := hown
  have hl : lv_has ls 4 [(0, .ref (E.1 0)), (1, .int x1), (2, .int x2), (3, .int x3)] := hl
  rw [fX11_think] at hF
  refine lv_iload_n hx hb dX11_think_0 rfl (lv_at hl 1 rfl) ?_
  refine lv_iconst (v := 0) hx hb dX11_think_1 (by decide) ?_
  refine lv_sipush (v := 1000) hx hb dX11_think_2 (by decide) ?_
  obtain ⟨u_1, hu_1, hF⟩ := zbd hF
  refine zcall_i (va_runS (As := [.int x1, .int (0 : Int32), .int (1000 : Int32)]) (rest := []) ⟨hx, hb, hml, hown, hts⟩ (qX11_within l D E KL kc on rw rd ft tr la mo N _ x1 (0 : Int32) (1000 : Int32) _ hu_1) (va_cwS 3 hts (zgS k1_10 k1_11 k0_1 k1_12) rfl rfl rfl (by decide +kernel) ⟨Nat.le_of_ble_eq_true rfl, Nat.le_of_ble_eq_true rfl⟩) (zps hE hS hA hK hP hD) rfl rfl hl.1 rfl (lv_room (Nat.le_of_ble_eq_true rfl)) dX11_think_5 ⟨Nat.zero_le _, Nat.zero_le _⟩) hD hS hA (fun H locs hP hD hS => ?_)
  refine lv_if_eq (tgt := 32) hx hb dX11_think_8 (by decide) (fun c_2 => ?_) (fun c_2 => ?_)
  · have hF := zit c_2 hF
    refine lv_ldc (own := RX11) (v := -1000001) hx hb hown (zh hts k1_13) dX11_think_32 ?_
    obtain rfl := Option.some.inj hF
    exact hend _ _ _ _ hP hD hS dX11_think_34
  · have hF := zif c_2 hF
    refine lv_iload_n hx hb dX11_think_11 rfl (lv_at hl 2 rfl) ?_
    refine lv_iconst (v := 0) hx hb dX11_think_12 (by decide) ?_
    refine lv_sipush (v := 1000) hx hb dX11_think_13 (by decide) ?_
    obtain ⟨u_3, hu_3, hF⟩ := zbd hF
    refine zcall_i (va_runS (As := [.int x2, .int (0 : Int32), .int (1000 : Int32)]) (rest := []) ⟨hx, hb, hml, hown, hts⟩ (qX11_within l D E KL kc on rw rd ft tr la mo N _ x2 (0 : Int32) (1000 : Int32) _ hu_3) (va_cwS 3 hts (zgS k1_10 k1_11 k0_1 k1_12) rfl rfl rfl (by decide +kernel) ⟨Nat.le_of_ble_eq_true rfl, Nat.le_of_ble_eq_true rfl⟩) (zps hE hS hA hK hP hD) rfl rfl hl.1 rfl (lv_room (Nat.le_of_ble_eq_true rfl)) dX11_think_16 ⟨Nat.zero_le _, Nat.zero_le _⟩) hD hS hA (fun H locs hP hD hS => ?_)
    refine lv_if_eq (tgt := 32) hx hb dX11_think_19 (by decide) (fun c_4 => ?_) (fun c_4 => ?_)
    · have hF := zit c_4 hF
      refine lv_ldc (own := RX11) (v := -1000001) hx hb hown (zh hts k1_13) dX11_think_32 ?_
      obtain rfl := Option.some.inj hF
      exact hend _ _ _ _ hP hD hS dX11_think_34
    · have hF := zif c_4 hF
      refine lv_iload_n hx hb dX11_think_22 rfl (lv_at hl 3 rfl) ?_
      refine lv_iconst (v := 0) hx hb dX11_think_23 (by decide) ?_
      refine lv_bipush (v := 60) hx hb dX11_think_24 (by decide) ?_
      obtain ⟨u_5, hu_5, hF⟩ := zbd hF
      refine zcall_i (va_runS (As := [.int x3, .int (0 : Int32), .int (60 : Int32)]) (rest := []) ⟨hx, hb, hml, hown, hts⟩ (qX11_within l D E KL kc on rw rd ft tr la mo N _ x3 (0 : Int32) (60 : Int32) _ hu_5) (va_cwS 3 hts (zgS k1_10 k1_11 k0_1 k1_12) rfl rfl rfl (by decide +kernel) ⟨Nat.le_of_ble_eq_true rfl, Nat.le_of_ble_eq_true rfl⟩) (zps hE hS hA hK hP hD) rfl rfl hl.1 rfl (lv_room (Nat.le_of_ble_eq_true rfl)) dX11_think_26 ⟨Nat.zero_le _, Nat.zero_le _⟩) hD hS hA (fun H locs hP hD hS => ?_)
      refine lv_if_ne (tgt := 35) hx hb dX11_think_29 (by decide) (fun c_6 => ?_) (fun c_6 => ?_)
      · have hF := zif c_6 hF
        refine lv_iload_n hx hb dX11_think_35 rfl (lv_at hl 1 rfl) ?_
        refine lv_iload_n hx hb dX11_think_36 rfl (lv_at hl 2 rfl) ?_
        refine lv_iload_n hx hb dX11_think_37 rfl (lv_at hl 3 rfl) ?_
        obtain ⟨u_7, hu_7, hF⟩ := zbd hF
        refine zcall_i (va_runS (As := [.int x1, .int x2, .int x3]) (rest := []) ⟨hx, hb, hml, hown, hts⟩ (qX2_thought l D E KL kc on rw rd ft tr la mo N _ x1 x2 x3 _ hu_7) (va_cwS 3 hts (zgS k3_48 k3_49 k0_5 k3_50) rfl rfl rfl (by decide +kernel) ⟨Nat.le_of_ble_eq_true rfl, Nat.le_of_ble_eq_true rfl⟩) (zps hE hS hA hK hP hD) rfl rfl hl.1 rfl (lv_room (Nat.le_of_ble_eq_true rfl)) dX11_think_38 ⟨Nat.zero_le _, Nat.zero_le _⟩) hD hS hA (fun H locs hP hD hS => ?_)
        obtain rfl := Option.some.inj hF
        exact hend _ _ _ _ hP hD hS dX11_think_41
      · have hF := zit c_6 hF
        refine lv_ldc (own := RX11) (v := -1000001) hx hb hown (zh hts k1_13) dX11_think_32 ?_
        obtain rfl := Option.some.inj hF
        exact hend _ _ _ _ hP hD hS dX11_think_34
def fX11_lostUse (N : Nat) (L : zLS) (x1 : Int32) (x2 : Int32) (x3 : Int32) : Option Int32 :=
  (fX4_isPiece N L x1).bind fun u_2 =>
  if u_2 = 0 then
    some (-1000001 : Int32)
  else
    (fX11_within N x2 (0 : Int32) (999 : Int32)).bind fun u_4 =>
    if u_4 = 0 then
      some (-1000001 : Int32)
    else
      (fX11_within N x3 x2 (999 : Int32)).bind fun u_6 =>
      if u_6 = 0 then
        some (-1000001 : Int32)
      else
        (fX4_useOf N L x1).bind fun u_9 =>
        some (u_9 * (x3 - x2))
set_option maxHeartbeats 4000000 in
set_option maxRecDepth 100000 in
theorem qX11_lostUse (l : Launch) (D : va_G) (E : zE) (KL : List Nat) (kc : Nat → zKC) (on : zNS) (rw rd ft tr : zOS) (la : Nat → zLS) (mo : zMS) (hj : on.2.1 < 5) (L : zLS) (N sz : Nat) (x1 : Int32) (x2 : Int32) (x3 : Int32) (out : Int32) (hF : fX11_lostUse N L x1 x2 x3 = some out) : zCi l yX11_lostUse zwX11_lostUse ({ frames := 2, cells := 0, slots := 0, locals := 42 }) [.ref (E.1 0), .int x1, .int x2, .int x3] D E sz (zW E KL kc on rw rd ft tr (va_up la on.2.1 L) mo) (zW E KL kc on rw rd ft tr (va_up la on.2.1 L) mo) out 0 0 := by
  refine zent_i (cc := cX11_lostUse) (nL := 4) (by decide) rfl (Nat.le_of_ble_eq_true rfl) ?_
  intro p e s m args below meth c Q A hx hb hml hown hts hA hK hP hD hS hE ls hl hend
  have hown : s.vm.findClass RX11 = some m.cls := hown
  have hl : lv_has ls 4 [(0, .ref (E.1 0)), (1, .int x1), (2, .int x2), (3, .int x3)] := hl
  rw [fX11_lostUse] at hF
  refine lv_aload_n hx hb dX11_lostUse_0 rfl (lv_at hl 0 rfl) ?_
  refine va_get (D := D) (ci := 10) (v := .ref (E.1 (13 + 11 * on.2.1))) (C := RX11) (T := TX11) (N := 9) hx hb hts (zi iX11) hown hK hP 0 (zg_on _ _ _ _ _ _ _ _ _ _) rfl 6 (by decide) (zh hts k0_221) (fun _ h9 => h9) rfl dX11_lostUse_1 ?_
  refine lv_iload_n hx hb dX11_lostUse_4 rfl (lv_at hl 1 rfl) ?_
  have hrv_1 := (va_recv hK hP (ci := 3) (q0 := 13 + 11 * on.2.1) rfl (zg_L _ _ _ _ _ _ _ _ _ _ hj _))
  obtain ⟨u_2, hu_2, hF⟩ := zbd hF
  refine zcall_i (va_runV (As := [.int x1]) (rest := []) ⟨hx, hb, hml, hown, hts⟩ (qX4_isPiece l D E KL kc on rw rd ft tr la mo on.2.1 hj L N _ x1 _ hu_2) (cwV 1 hts (zgV k2_213 k2_174 k2_175 k0_6 k2_176) rfl rfl rfl (by decide +kernel) ⟨Nat.le_of_ble_eq_true rfl, Nat.le_of_ble_eq_true rfl⟩) (zpv hE hS hA hK hP hD hrv_1) rfl rfl hl.1 rfl (lv_room (Nat.le_of_ble_eq_true rfl)) dX11_lostUse_5 ⟨Nat.zero_le _, Nat.zero_le _⟩) hD hS hA (fun H locs hP hD hS => ?_)
  refine lv_if_eq (tgt := 33) hx hb dX11_lostUse_8 (by decide) (fun c_3 => ?_) (fun c_3 => ?_)
  · have hF := zit c_3 hF
    refine lv_ldc (own := RX11) (v := -1000001) hx hb hown (zh hts k1_13) dX11_lostUse_33 ?_
    obtain rfl := Option.some.inj hF
    exact hend _ _ _ _ hP hD hS dX11_lostUse_35
  · have hF := zif c_3 hF
    refine lv_iload_n hx hb dX11_lostUse_11 rfl (lv_at hl 2 rfl) ?_
    refine lv_iconst (v := 0) hx hb dX11_lostUse_12 (by decide) ?_
    refine lv_sipush (v := 999) hx hb dX11_lostUse_13 (by decide) ?_
    obtain ⟨u_4, hu_4, hF⟩ := zbd hF
    refine zcall_i (va_runS (As := [.int x2, .int (0 : Int32), .int (999 : Int32)]) (rest := []) ⟨hx, hb, hml, hown, hts⟩ (qX11_within l D E KL kc on rw rd ft tr (va_up la on.2.1 L) mo N _ x2 (0 : Int32) (999 : Int32) _ hu_4) (va_cwS 3 hts (zgS k1_10 k1_11 k0_1 k1_12) rfl rfl rfl (by decide +kernel) ⟨Nat.le_of_ble_eq_true rfl, Nat.le_of_ble_eq_true rfl⟩) (zps hE hS hA hK hP hD) rfl rfl hl.1 rfl (lv_room (Nat.le_of_ble_eq_true rfl)) dX11_lostUse_16 ⟨Nat.zero_le _, Nat.zero_le _⟩) hD hS hA (fun H locs hP hD hS => ?_)
    refine lv_if_eq (tgt := 33) hx hb dX11_lostUse_19 (by decide) (fun c_5 => ?_) (fun c_5 => ?_)
    · have hF := zit c_5 hF
      refine lv_ldc (own := RX11) (v := -1000001) hx hb hown (zh hts k1_13) dX11_lostUse_33 ?_
      obtain rfl := Option.some.inj hF
      exact hend _ _ _ _ hP hD hS dX11_lostUse_35
    · have hF := zif c_5 hF
      refine lv_iload_n hx hb dX11_lostUse_22 rfl (lv_at hl 3 rfl) ?_
      refine lv_iload_n hx hb dX11_lostUse_23 rfl (lv_at hl 2 rfl) ?_
      refine lv_sipush (v := 999) hx hb dX11_lostUse_24 (by decide) ?_
      obtain ⟨u_6, hu_6, hF⟩ := zbd hF
      refine zcall_i (va_runS (As := [.int x3, .int x2, .int (999 : Int32)]) (rest := []) ⟨hx, hb, hml, hown, hts⟩ (qX11_within l D E KL kc on rw rd ft tr (va_up la on.2.1 L) mo N _ x3 x2 (999 : Int32) _ hu_6) (va_cwS 3 hts (zgS k1_10 k1_11 k0_1 k1_12) rfl rfl rfl (by decide +kernel) ⟨Nat.le_of_ble_eq_true rfl, Nat.le_of_ble_eq_true rfl⟩) (zps hE hS hA hK hP hD) rfl rfl hl.1 rfl (lv_room (Nat.le_of_ble_eq_true rfl)) dX11_lostUse_27 ⟨Nat.zero_le _, Nat.zero_le _⟩) hD hS hA (fun H locs hP hD hS => ?_)
      refine lv_if_ne (tgt := 36) hx hb dX11_lostUse_30 (by decide) (fun c_7 => ?_) (fun c_7 => ?_)
      · have hF := zif c_7 hF
        refine lv_aload_n hx hb dX11_lostUse_36 rfl (lv_at hl 0 rfl) ?_
        refine va_get (D := D) (ci := 10) (v := .ref (E.1 (13 + 11 * on.2.1))) (C := RX11) (T := TX11) (N := 9) hx hb hts (zi iX11) hown hK hP 0 (zg_on _ _ _ _ _ _ _ _ _ _) rfl 6 (by decide) (zh hts k0_221) (fun _ h9 => h9) rfl dX11_lostUse_37 ?_
        refine lv_iload_n hx hb dX11_lostUse_40 rfl (lv_at hl 1 rfl) ?_
        have hrv_8 := (va_recv hK hP (ci := 3) (q0 := 13 + 11 * on.2.1) rfl (zg_L _ _ _ _ _ _ _ _ _ _ hj _))
        obtain ⟨u_9, hu_9, hF⟩ := zbd hF
        refine zcall_i (va_runV (As := [.int x1]) (rest := []) ⟨hx, hb, hml, hown, hts⟩ (qX4_useOf l D E KL kc on rw rd ft tr la mo on.2.1 hj L N _ x1 _ hu_9) (cwV 1 hts (zgV k2_239 k3_0 k3_1 k0_6 k3_2) rfl rfl rfl (by decide +kernel) ⟨Nat.le_of_ble_eq_true rfl, Nat.le_of_ble_eq_true rfl⟩) (zpv hE hS hA hK hP hD hrv_8) rfl rfl hl.1 rfl (lv_room (Nat.le_of_ble_eq_true rfl)) dX11_lostUse_41 ⟨Nat.zero_le _, Nat.zero_le _⟩) hD hS hA (fun H locs hP hD hS => ?_)
        refine lv_iload_n hx hb dX11_lostUse_44 rfl (lv_at hl 3 rfl) ?_
        refine lv_iload_n hx hb dX11_lostUse_45 rfl (lv_at hl 2 rfl) ?_
        refine lv_isub hx hb dX11_lostUse_46 ?_
        refine lv_imul hx hb dX11_lostUse_47 ?_
        obtain rfl := Option.some.inj hF
        exact hend _ _ _ _ hP hD hS dX11_lostUse_48
      · have hF := zit c_7 hF
        refine lv_ldc (own := RX11) (v := -1000001) hx hb hown (zh hts k1_13) dX11_lostUse_33 ?_
        obtain rfl := Option.some.inj hF
        exact hend _ _ _ _ hP hD hS dX11_lostUse_35
def fX11_silence (N : Nat) (L : zLS) (x1 : Int32) (x2 : Int32) (x3 : Int32) (x4 : Int32) (x5 : Int32) : Option Int32 :=
  (fX4_isKeeper N L x1).bind fun u_2 =>
  if u_2 = 0 then
    some (-1000001 : Int32)
  else
    (fX4_isKeeper N L x2).bind fun u_5 =>
    if u_5 = 0 then
      some (-1000001 : Int32)
    else
      if x1 = x2 then
        some (-1000001 : Int32)
      else
        (fX4_isPiece N L x3).bind fun u_9 =>
        if u_9 = 0 then
          some (-1000001 : Int32)
        else
          (fX11_within N x4 (0 : Int32) (999 : Int32)).bind fun u_11 =>
          if u_11 = 0 then
            some (-1000001 : Int32)
          else
            (fX11_within N x5 (0 : Int32) (1 : Int32)).bind fun u_13 =>
            if u_13 = 0 then
              some (-1000001 : Int32)
            else
              (fX4_countOf N L x1 x3).bind fun u_16 =>
              if u_16 < (1 : Int32) then
                some (-1000002 : Int32)
              else
                (fX4_countOf N L x2 x3).bind fun u_19 =>
                if (1 : Int32) ≤ u_19 then
                  (fX4_hadBy N L x3).bind fun u_22 =>
                  (fX4_worthIn N L x4 u_22).bind fun u_24 =>
                  if x5 = 0 then
                    some u_24
                  else
                    (fX4_worthIn N L x4 (u_22 - (1 : Int32))).bind fun u_27 =>
                    some (u_27 - u_24)
                else
                  some (-1000002 : Int32)
set_option maxHeartbeats 4000000 in
set_option maxRecDepth 100000 in
theorem qX11_silence (l : Launch) (D : va_G) (E : zE) (KL : List Nat) (kc : Nat → zKC) (on : zNS) (rw rd ft tr : zOS) (la : Nat → zLS) (mo : zMS) (hj : on.2.1 < 5) (L : zLS) (N sz : Nat) (x1 : Int32) (x2 : Int32) (x3 : Int32) (x4 : Int32) (x5 : Int32) (out : Int32) (hF : fX11_silence N L x1 x2 x3 x4 x5 = some out) : zCi l yX11_silence zwX11_silence ({ frames := 3, cells := 0, slots := 0, locals := 69 }) [.ref (E.1 0), .int x1, .int x2, .int x3, .int x4, .int x5] D E sz (zW E KL kc on rw rd ft tr (va_up la on.2.1 L) mo) (zW E KL kc on rw rd ft tr (va_up la on.2.1 L) mo) out 0 0 := by
  refine zent_i (cc := cX11_silence) (nL := 8) (by decide) rfl (Nat.le_of_ble_eq_true rfl) ?_
  intro p e s m args below meth c Q A hx hb hml hown hts hA hK hP hD hS hE ls hl hend
  have hown : s.vm.findClass RX11 = some m.cls := hown
  have hl : lv_has ls 8 [(0, .ref (E.1 0)), (1, .int x1), (2, .int x2), (3, .int x3), (4, .int x4), (5, .int x5)] := hl
  rw [fX11_silence] at hF
  refine lv_aload_n hx hb dX11_silence_0 rfl (lv_at hl 0 rfl) ?_
  refine va_get (D := D) (ci := 10) (v := .ref (E.1 (13 + 11 * on.2.1))) (C := RX11) (T := TX11) (N := 9) hx hb hts (zi iX11) hown hK hP 0 (zg_on _ _ _ _ _ _ _ _ _ _) rfl 6 (by decide) (zh hts k0_221) (fun _ h9 => h9) rfl dX11_silence_1 ?_
  refine lv_iload_n hx hb dX11_silence_4 rfl (lv_at hl 1 rfl) ?_
  have hrv_1 := (va_recv hK hP (ci := 3) (q0 := 13 + 11 * on.2.1) rfl (zg_L _ _ _ _ _ _ _ _ _ _ hj _))
  obtain ⟨u_2, hu_2, hF⟩ := zbd hF
  refine zcall_i (va_runV (As := [.int x1]) (rest := []) ⟨hx, hb, hml, hown, hts⟩ (qX4_isKeeper l D E KL kc on rw rd ft tr la mo on.2.1 hj L N _ x1 _ hu_2) (cwV 1 hts (zgV k2_212 k2_170 k2_171 k0_6 k2_172) rfl rfl rfl (by decide +kernel) ⟨Nat.le_of_ble_eq_true rfl, Nat.le_of_ble_eq_true rfl⟩) (zpv hE hS hA hK hP hD hrv_1) rfl rfl hl.1 rfl (lv_room (Nat.le_of_ble_eq_true rfl)) dX11_silence_5 ⟨Nat.zero_le _, Nat.zero_le _⟩) hD hS hA (fun H locs hP hD hS => ?_)
  refine lv_if_eq (tgt := 38) hx hb dX11_silence_8 (by decide) (fun c_3 => ?_) (fun c_3 => ?_)
  · have hF := zit c_3 hF
    refine lv_ldc (own := RX11) (v := -1000001) hx hb hown (zh hts k1_13) dX11_silence_38 ?_
    obtain rfl := Option.some.inj hF
    exact hend _ _ _ _ hP hD hS dX11_silence_40
  · have hF := zif c_3 hF
    refine lv_aload_n hx hb dX11_silence_11 rfl (lv_at hl 0 rfl) ?_
    refine va_get (D := D) (ci := 10) (v := .ref (E.1 (13 + 11 * on.2.1))) (C := RX11) (T := TX11) (N := 9) hx hb hts (zi iX11) hown hK hP 0 (zg_on _ _ _ _ _ _ _ _ _ _) rfl 6 (by decide) (zh hts k0_221) (fun _ h9 => h9) rfl dX11_silence_12 ?_
    refine lv_iload_n hx hb dX11_silence_15 rfl (lv_at hl 2 rfl) ?_
    have hrv_4 := (va_recv hK hP (ci := 3) (q0 := 13 + 11 * on.2.1) rfl (zg_L _ _ _ _ _ _ _ _ _ _ hj _))
    obtain ⟨u_5, hu_5, hF⟩ := zbd hF
    refine zcall_i (va_runV (As := [.int x2]) (rest := []) ⟨hx, hb, hml, hown, hts⟩ (qX4_isKeeper l D E KL kc on rw rd ft tr la mo on.2.1 hj L N _ x2 _ hu_5) (cwV 1 hts (zgV k2_212 k2_170 k2_171 k0_6 k2_172) rfl rfl rfl (by decide +kernel) ⟨Nat.le_of_ble_eq_true rfl, Nat.le_of_ble_eq_true rfl⟩) (zpv hE hS hA hK hP hD hrv_4) rfl rfl hl.1 rfl (lv_room (Nat.le_of_ble_eq_true rfl)) dX11_silence_16 ⟨Nat.zero_le _, Nat.zero_le _⟩) hD hS hA (fun H locs hP hD hS => ?_)
    refine lv_if_eq (tgt := 38) hx hb dX11_silence_19 (by decide) (fun c_6 => ?_) (fun c_6 => ?_)
    · have hF := zit c_6 hF
      refine lv_ldc (own := RX11) (v := -1000001) hx hb hown (zh hts k1_13) dX11_silence_38 ?_
      obtain rfl := Option.some.inj hF
      exact hend _ _ _ _ hP hD hS dX11_silence_40
    · have hF := zif c_6 hF
      refine lv_iload_n hx hb dX11_silence_22 rfl (lv_at hl 1 rfl) ?_
      refine lv_iload_n hx hb dX11_silence_23 rfl (lv_at hl 2 rfl) ?_
      refine lv_icmp_eq (tgt := 38) hx hb dX11_silence_24 (by decide) (fun c_7 => ?_) (fun c_7 => ?_)
      · have hF := zit c_7 hF
        refine lv_ldc (own := RX11) (v := -1000001) hx hb hown (zh hts k1_13) dX11_silence_38 ?_
        obtain rfl := Option.some.inj hF
        exact hend _ _ _ _ hP hD hS dX11_silence_40
      · have hF := zif c_7 hF
        refine lv_aload_n hx hb dX11_silence_27 rfl (lv_at hl 0 rfl) ?_
        refine va_get (D := D) (ci := 10) (v := .ref (E.1 (13 + 11 * on.2.1))) (C := RX11) (T := TX11) (N := 9) hx hb hts (zi iX11) hown hK hP 0 (zg_on _ _ _ _ _ _ _ _ _ _) rfl 6 (by decide) (zh hts k0_221) (fun _ h9 => h9) rfl dX11_silence_28 ?_
        refine lv_iload_n hx hb dX11_silence_31 rfl (lv_at hl 3 rfl) ?_
        have hrv_8 := (va_recv hK hP (ci := 3) (q0 := 13 + 11 * on.2.1) rfl (zg_L _ _ _ _ _ _ _ _ _ _ hj _))
        obtain ⟨u_9, hu_9, hF⟩ := zbd hF
        refine zcall_i (va_runV (As := [.int x3]) (rest := []) ⟨hx, hb, hml, hown, hts⟩ (qX4_isPiece l D E KL kc on rw rd ft tr la mo on.2.1 hj L N _ x3 _ hu_9) (cwV 1 hts (zgV k2_213 k2_174 k2_175 k0_6 k2_176) rfl rfl rfl (by decide +kernel) ⟨Nat.le_of_ble_eq_true rfl, Nat.le_of_ble_eq_true rfl⟩) (zpv hE hS hA hK hP hD hrv_8) rfl rfl hl.1 rfl (lv_room (Nat.le_of_ble_eq_true rfl)) dX11_silence_32 ⟨Nat.zero_le _, Nat.zero_le _⟩) hD hS hA (fun H locs hP hD hS => ?_)
        refine lv_if_ne (tgt := 41) hx hb dX11_silence_35 (by decide) (fun c_10 => ?_) (fun c_10 => ?_)
        · have hF := zif c_10 hF
          refine lv_iload hx hb dX11_silence_41 (lv_at hl 4 rfl) ?_
          refine lv_iconst (v := 0) hx hb dX11_silence_43 (by decide) ?_
          refine lv_sipush (v := 999) hx hb dX11_silence_44 (by decide) ?_
          obtain ⟨u_11, hu_11, hF⟩ := zbd hF
          refine zcall_i (va_runS (As := [.int x4, .int (0 : Int32), .int (999 : Int32)]) (rest := []) ⟨hx, hb, hml, hown, hts⟩ (qX11_within l D E KL kc on rw rd ft tr (va_up la on.2.1 L) mo N _ x4 (0 : Int32) (999 : Int32) _ hu_11) (va_cwS 3 hts (zgS k1_10 k1_11 k0_1 k1_12) rfl rfl rfl (by decide +kernel) ⟨Nat.le_of_ble_eq_true rfl, Nat.le_of_ble_eq_true rfl⟩) (zps hE hS hA hK hP hD) rfl rfl hl.1 rfl (lv_room (Nat.le_of_ble_eq_true rfl)) dX11_silence_47 ⟨Nat.zero_le _, Nat.zero_le _⟩) hD hS hA (fun H locs hP hD hS => ?_)
          refine lv_if_eq (tgt := 63) hx hb dX11_silence_50 (by decide) (fun c_12 => ?_) (fun c_12 => ?_)
          · have hF := zit c_12 hF
            refine lv_ldc (own := RX11) (v := -1000001) hx hb hown (zh hts k1_13) dX11_silence_63 ?_
            obtain rfl := Option.some.inj hF
            exact hend _ _ _ _ hP hD hS dX11_silence_65
          · have hF := zif c_12 hF
            refine lv_iload hx hb dX11_silence_53 (lv_at hl 5 rfl) ?_
            refine lv_iconst (v := 0) hx hb dX11_silence_55 (by decide) ?_
            refine lv_iconst (v := 1) hx hb dX11_silence_56 (by decide) ?_
            obtain ⟨u_13, hu_13, hF⟩ := zbd hF
            refine zcall_i (va_runS (As := [.int x5, .int (0 : Int32), .int (1 : Int32)]) (rest := []) ⟨hx, hb, hml, hown, hts⟩ (qX11_within l D E KL kc on rw rd ft tr (va_up la on.2.1 L) mo N _ x5 (0 : Int32) (1 : Int32) _ hu_13) (va_cwS 3 hts (zgS k1_10 k1_11 k0_1 k1_12) rfl rfl rfl (by decide +kernel) ⟨Nat.le_of_ble_eq_true rfl, Nat.le_of_ble_eq_true rfl⟩) (zps hE hS hA hK hP hD) rfl rfl hl.1 rfl (lv_room (Nat.le_of_ble_eq_true rfl)) dX11_silence_57 ⟨Nat.zero_le _, Nat.zero_le _⟩) hD hS hA (fun H locs hP hD hS => ?_)
            refine lv_if_ne (tgt := 66) hx hb dX11_silence_60 (by decide) (fun c_14 => ?_) (fun c_14 => ?_)
            · have hF := zif c_14 hF
              refine lv_aload_n hx hb dX11_silence_66 rfl (lv_at hl 0 rfl) ?_
              refine va_get (D := D) (ci := 10) (v := .ref (E.1 (13 + 11 * on.2.1))) (C := RX11) (T := TX11) (N := 9) hx hb hts (zi iX11) hown hK hP 0 (zg_on _ _ _ _ _ _ _ _ _ _) rfl 6 (by decide) (zh hts k0_221) (fun _ h9 => h9) rfl dX11_silence_67 ?_
              refine lv_iload_n hx hb dX11_silence_70 rfl (lv_at hl 1 rfl) ?_
              refine lv_iload_n hx hb dX11_silence_71 rfl (lv_at hl 3 rfl) ?_
              have hrv_15 := (va_recv hK hP (ci := 3) (q0 := 13 + 11 * on.2.1) rfl (zg_L _ _ _ _ _ _ _ _ _ _ hj _))
              obtain ⟨u_16, hu_16, hF⟩ := zbd hF
              refine zcall_i (va_runV (As := [.int x1, .int x3]) (rest := []) ⟨hx, hb, hml, hown, hts⟩ (qX4_countOf l D E KL kc on rw rd ft tr la mo on.2.1 hj L N _ x1 x3 _ hu_16) (cwV 2 hts (zgV k2_214 k2_134 k2_135 k0_6 k2_136) rfl rfl rfl (by decide +kernel) ⟨Nat.le_of_ble_eq_true rfl, Nat.le_of_ble_eq_true rfl⟩) (zpv hE hS hA hK hP hD hrv_15) rfl rfl hl.1 rfl (lv_room (Nat.le_of_ble_eq_true rfl)) dX11_silence_72 ⟨Nat.zero_le _, Nat.zero_le _⟩) hD hS hA (fun H locs hP hD hS => ?_)
              refine lv_iconst (v := 1) hx hb dX11_silence_75 (by decide) ?_
              refine lv_icmp_lt (tgt := 92) hx hb dX11_silence_76 (by decide) (fun c_17 => ?_) (fun c_17 => ?_)
              · have hF := zit c_17 hF
                refine lv_ldc (own := RX11) (v := -1000002) hx hb hown (zh hts k2_104) dX11_silence_92 ?_
                obtain rfl := Option.some.inj hF
                exact hend _ _ _ _ hP hD hS dX11_silence_94
              · have hF := zif c_17 hF
                refine lv_aload_n hx hb dX11_silence_79 rfl (lv_at hl 0 rfl) ?_
                refine va_get (D := D) (ci := 10) (v := .ref (E.1 (13 + 11 * on.2.1))) (C := RX11) (T := TX11) (N := 9) hx hb hts (zi iX11) hown hK hP 0 (zg_on _ _ _ _ _ _ _ _ _ _) rfl 6 (by decide) (zh hts k0_221) (fun _ h9 => h9) rfl dX11_silence_80 ?_
                refine lv_iload_n hx hb dX11_silence_83 rfl (lv_at hl 2 rfl) ?_
                refine lv_iload_n hx hb dX11_silence_84 rfl (lv_at hl 3 rfl) ?_
                have hrv_18 := (va_recv hK hP (ci := 3) (q0 := 13 + 11 * on.2.1) rfl (zg_L _ _ _ _ _ _ _ _ _ _ hj _))
                obtain ⟨u_19, hu_19, hF⟩ := zbd hF
                refine zcall_i (va_runV (As := [.int x2, .int x3]) (rest := []) ⟨hx, hb, hml, hown, hts⟩ (qX4_countOf l D E KL kc on rw rd ft tr la mo on.2.1 hj L N _ x2 x3 _ hu_19) (cwV 2 hts (zgV k2_214 k2_134 k2_135 k0_6 k2_136) rfl rfl rfl (by decide +kernel) ⟨Nat.le_of_ble_eq_true rfl, Nat.le_of_ble_eq_true rfl⟩) (zpv hE hS hA hK hP hD hrv_18) rfl rfl hl.1 rfl (lv_room (Nat.le_of_ble_eq_true rfl)) dX11_silence_85 ⟨Nat.zero_le _, Nat.zero_le _⟩) hD hS hA (fun H locs hP hD hS => ?_)
                refine lv_iconst (v := 1) hx hb dX11_silence_88 (by decide) ?_
                refine lv_icmp_ge (tgt := 95) hx hb dX11_silence_89 (by decide) (fun c_20 => ?_) (fun c_20 => ?_)
                · have hF := zit c_20 hF
                  refine lv_aload_n hx hb dX11_silence_95 rfl (lv_at hl 0 rfl) ?_
                  refine va_get (D := D) (ci := 10) (v := .ref (E.1 (13 + 11 * on.2.1))) (C := RX11) (T := TX11) (N := 9) hx hb hts (zi iX11) hown hK hP 0 (zg_on _ _ _ _ _ _ _ _ _ _) rfl 6 (by decide) (zh hts k0_221) (fun _ h9 => h9) rfl dX11_silence_96 ?_
                  refine lv_iload_n hx hb dX11_silence_99 rfl (lv_at hl 3 rfl) ?_
                  have hrv_21 := (va_recv hK hP (ci := 3) (q0 := 13 + 11 * on.2.1) rfl (zg_L _ _ _ _ _ _ _ _ _ _ hj _))
                  obtain ⟨u_22, hu_22, hF⟩ := zbd hF
                  refine zcall_i (va_runV (As := [.int x3]) (rest := []) ⟨hx, hb, hml, hown, hts⟩ (qX4_hadBy l D E KL kc on rw rd ft tr la mo on.2.1 hj L N _ x3 _ hu_22) (cwV 1 hts (zgV k3_9 k2_178 k2_179 k0_6 k2_180) rfl rfl rfl (by decide +kernel) ⟨Nat.le_of_ble_eq_true rfl, Nat.le_of_ble_eq_true rfl⟩) (zpv hE hS hA hK hP hD hrv_21) rfl rfl hl.1 rfl (lv_room (Nat.le_of_ble_eq_true rfl)) dX11_silence_100 ⟨Nat.zero_le _, Nat.zero_le _⟩) hD hS hA (fun H locs hP hD hS => ?_)
                  refine lv_istore (lv' := [(6, .int u_22), (0, .ref (E.1 0)), (1, .int x1), (2, .int x2), (3, .int x3), (4, .int x4), (5, .int x5)]) hx hb dX11_silence_103 hl (by decide) rfl (fun ls hl => ?_)
                  refine lv_aload_n hx hb dX11_silence_105 rfl (lv_at hl 1 rfl) ?_
                  refine va_get (D := D) (ci := 10) (v := .ref (E.1 (13 + 11 * on.2.1))) (C := RX11) (T := TX11) (N := 9) hx hb hts (zi iX11) hown hK hP 0 (zg_on _ _ _ _ _ _ _ _ _ _) rfl 6 (by decide) (zh hts k0_221) (fun _ h9 => h9) rfl dX11_silence_106 ?_
                  refine lv_iload hx hb dX11_silence_109 (lv_at hl 5 rfl) ?_
                  refine lv_iload hx hb dX11_silence_111 (lv_at hl 0 rfl) ?_
                  have hrv_23 := (va_recv hK hP (ci := 3) (q0 := 13 + 11 * on.2.1) rfl (zg_L _ _ _ _ _ _ _ _ _ _ hj _))
                  obtain ⟨u_24, hu_24, hF⟩ := zbd hF
                  refine zcall_i (va_runV (As := [.int x4, .int u_22]) (rest := []) ⟨hx, hb, hml, hown, hts⟩ (qX4_worthIn l D E KL kc on rw rd ft tr la mo on.2.1 hj L N _ x4 u_22 _ hu_24) (cwV 2 hts (zgV k3_10 k2_190 k2_191 k0_6 k2_192) rfl rfl rfl (by decide +kernel) ⟨Nat.le_of_ble_eq_true rfl, Nat.le_of_ble_eq_true rfl⟩) (zpv hE hS hA hK hP hD hrv_23) rfl rfl hl.1 rfl (lv_room (Nat.le_of_ble_eq_true rfl)) dX11_silence_113 ⟨Nat.zero_le _, Nat.zero_le _⟩) hD hS hA (fun H locs hP hD hS => ?_)
                  refine lv_istore (lv' := [(7, .int u_24), (6, .int u_22), (0, .ref (E.1 0)), (1, .int x1), (2, .int x2), (3, .int x3), (4, .int x4), (5, .int x5)]) hx hb dX11_silence_116 hl (by decide) rfl (fun ls hl => ?_)
                  refine lv_iload hx hb dX11_silence_118 (lv_at hl 7 rfl) ?_
                  refine lv_if_ne (tgt := 128) hx hb dX11_silence_120 (by decide) (fun c_25 => ?_) (fun c_25 => ?_)
                  · have hF := zif c_25 hF
                    refine lv_aload_n hx hb dX11_silence_128 rfl (lv_at hl 2 rfl) ?_
                    refine va_get (D := D) (ci := 10) (v := .ref (E.1 (13 + 11 * on.2.1))) (C := RX11) (T := TX11) (N := 9) hx hb hts (zi iX11) hown hK hP 0 (zg_on _ _ _ _ _ _ _ _ _ _) rfl 6 (by decide) (zh hts k0_221) (fun _ h9 => h9) rfl dX11_silence_129 ?_
                    refine lv_iload hx hb dX11_silence_132 (lv_at hl 6 rfl) ?_
                    refine lv_iload hx hb dX11_silence_134 (lv_at hl 1 rfl) ?_
                    refine lv_iconst (v := 1) hx hb dX11_silence_136 (by decide) ?_
                    refine lv_isub hx hb dX11_silence_137 ?_
                    have hrv_26 := (va_recv hK hP (ci := 3) (q0 := 13 + 11 * on.2.1) rfl (zg_L _ _ _ _ _ _ _ _ _ _ hj _))
                    obtain ⟨u_27, hu_27, hF⟩ := zbd hF
                    refine zcall_i (va_runV (As := [.int x4, .int (u_22 - (1 : Int32))]) (rest := []) ⟨hx, hb, hml, hown, hts⟩ (qX4_worthIn l D E KL kc on rw rd ft tr la mo on.2.1 hj L N _ x4 (u_22 - (1 : Int32)) _ hu_27) (cwV 2 hts (zgV k3_10 k2_190 k2_191 k0_6 k2_192) rfl rfl rfl (by decide +kernel) ⟨Nat.le_of_ble_eq_true rfl, Nat.le_of_ble_eq_true rfl⟩) (zpv hE hS hA hK hP hD hrv_26) rfl rfl hl.1 rfl (lv_room (Nat.le_of_ble_eq_true rfl)) dX11_silence_138 ⟨Nat.zero_le _, Nat.zero_le _⟩) hD hS hA (fun H locs hP hD hS => ?_)
                    refine lv_iload hx hb dX11_silence_141 (lv_at hl 0 rfl) ?_
                    refine lv_isub hx hb dX11_silence_143 ?_
                    obtain rfl := Option.some.inj hF
                    exact hend _ _ _ _ hP hD hS dX11_silence_144
                  · have hF := zit c_25 hF
                    refine lv_iload hx hb dX11_silence_123 (lv_at hl 0 rfl) ?_
                    refine lv_goto (tgt := 144) hx hb dX11_silence_125 (by decide) ?_
                    obtain rfl := Option.some.inj hF
                    exact hend _ _ _ _ hP hD hS dX11_silence_144
                · have hF := zif c_20 hF
                  refine lv_ldc (own := RX11) (v := -1000002) hx hb hown (zh hts k2_104) dX11_silence_92 ?_
                  obtain rfl := Option.some.inj hF
                  exact hend _ _ _ _ hP hD hS dX11_silence_94
            · have hF := zit c_14 hF
              refine lv_ldc (own := RX11) (v := -1000001) hx hb hown (zh hts k1_13) dX11_silence_63 ?_
              obtain rfl := Option.some.inj hF
              exact hend _ _ _ _ hP hD hS dX11_silence_65
        · have hF := zit c_10 hF
          refine lv_ldc (own := RX11) (v := -1000001) hx hb hown (zh hts k1_13) dX11_silence_38 ?_
          obtain rfl := Option.some.inj hF
          exact hend _ _ _ _ hP hD hS dX11_silence_40
def fX11_make (N : Nat) (L : zLS) (x1 : Int32) (x2 : Int32) (x3 : Int32) : Option Int32 :=
  (fX4_isTold N L).bind fun u_2 =>
  if u_2 = 0 then
    some (-1000002 : Int32)
  else
    (fX11_within N x1 (0 : Int32) (99999 : Int32)).bind fun u_4 =>
    if u_4 = 0 then
      some (-1000001 : Int32)
    else
      (fX11_within N x2 (0 : Int32) (1000 : Int32)).bind fun u_6 =>
      if u_6 = 0 then
        some (-1000001 : Int32)
      else
        (fX11_within N x3 (-1 : Int32) (99999 : Int32)).bind fun u_8 =>
        if u_8 = 0 then
          some (-1000001 : Int32)
        else
          (fX4_valueAt N L (L.1.1 1)).bind fun u_11 =>
          if x3 = (-1 : Int32) then
            (fX2_edge N (u_11 - x1) x2).bind fun u_14 =>
            some u_14
          else
            if (u_11 - x1) ≤ ((x2 * x3) / (1000 : Int32)) then
              some (0 : Int32)
            else
              some (1 : Int32)
set_option maxHeartbeats 4000000 in
set_option maxRecDepth 100000 in
theorem qX11_make (l : Launch) (D : va_G) (E : zE) (KL : List Nat) (kc : Nat → zKC) (on : zNS) (rw rd ft tr : zOS) (la : Nat → zLS) (mo : zMS) (hj : on.2.1 < 5) (L : zLS) (N sz : Nat) (x1 : Int32) (x2 : Int32) (x3 : Int32) (out : Int32) (hF : fX11_make N L x1 x2 x3 = some out) : zCi l yX11_make zwX11_make ({ frames := 2, cells := 0, slots := 0, locals := 47 }) [.ref (E.1 0), .int x1, .int x2, .int x3] D E sz (zW E KL kc on rw rd ft tr (va_up la on.2.1 L) mo) (zW E KL kc on rw rd ft tr (va_up la on.2.1 L) mo) out 0 0 := by
  refine zent_i (cc := cX11_make) (nL := 5) (by decide) rfl (Nat.le_of_ble_eq_true rfl) ?_
  intro p e s m args below meth c Q A hx hb hml hown hts hA hK hP hD hS hE ls hl hend
  have hown : s.vm.findClass RX11 = some m.cls := hown
  have hl : lv_has ls 5 [(0, .ref (E.1 0)), (1, .int x1), (2, .int x2), (3, .int x3)] := hl
  rw [fX11_make] at hF
  refine lv_aload_n hx hb dX11_make_0 rfl (lv_at hl 0 rfl) ?_
  refine va_get (D := D) (ci := 10) (v := .ref (E.1 (13 + 11 * on.2.1))) (C := RX11) (T := TX11) (N := 9) hx hb hts (zi iX11) hown hK hP 0 (zg_on _ _ _ _ _ _ _ _ _ _) rfl 6 (by decide) (zh hts k0_221) (fun _ h9 => h9) rfl dX11_make_1 ?_
  have hrv_1 := (va_recv hK hP (ci := 3) (q0 := 13 + 11 * on.2.1) rfl (zg_L _ _ _ _ _ _ _ _ _ _ hj _))
  obtain ⟨u_2, hu_2, hF⟩ := zbd hF
  refine zcall_i (va_runV (As := []) (rest := []) ⟨hx, hb, hml, hown, hts⟩ (qX4_isTold l D E KL kc on rw rd ft tr la mo on.2.1 hj L N _ _ hu_2) (cwV 0 hts (zgV k2_100 k2_101 k2_102 k0_6 k2_103) rfl rfl rfl (by decide +kernel) ⟨Nat.le_of_ble_eq_true rfl, Nat.le_of_ble_eq_true rfl⟩) (zpv hE hS hA hK hP hD hrv_1) rfl rfl hl.1 rfl (lv_room (Nat.le_of_ble_eq_true rfl)) dX11_make_4 ⟨Nat.zero_le _, Nat.zero_le _⟩) hD hS hA (fun H locs hP hD hS => ?_)
  refine lv_if_ne (tgt := 13) hx hb dX11_make_7 (by decide) (fun c_3 => ?_) (fun c_3 => ?_)
  · have hF := zif c_3 hF
    refine lv_iload_n hx hb dX11_make_13 rfl (lv_at hl 1 rfl) ?_
    refine lv_iconst (v := 0) hx hb dX11_make_14 (by decide) ?_
    refine lv_ldc (own := RX11) (v := 99999) hx hb hown (zh hts k3_101) dX11_make_15 ?_
    obtain ⟨u_4, hu_4, hF⟩ := zbd hF
    refine zcall_i (va_runS (As := [.int x1, .int (0 : Int32), .int (99999 : Int32)]) (rest := []) ⟨hx, hb, hml, hown, hts⟩ (qX11_within l D E KL kc on rw rd ft tr (va_up la on.2.1 L) mo N _ x1 (0 : Int32) (99999 : Int32) _ hu_4) (va_cwS 3 hts (zgS k1_10 k1_11 k0_1 k1_12) rfl rfl rfl (by decide +kernel) ⟨Nat.le_of_ble_eq_true rfl, Nat.le_of_ble_eq_true rfl⟩) (zps hE hS hA hK hP hD) rfl rfl hl.1 rfl (lv_room (Nat.le_of_ble_eq_true rfl)) dX11_make_17 ⟨Nat.zero_le _, Nat.zero_le _⟩) hD hS hA (fun H locs hP hD hS => ?_)
    refine lv_if_eq (tgt := 44) hx hb dX11_make_20 (by decide) (fun c_5 => ?_) (fun c_5 => ?_)
    · have hF := zit c_5 hF
      refine lv_ldc (own := RX11) (v := -1000001) hx hb hown (zh hts k1_13) dX11_make_44 ?_
      obtain rfl := Option.some.inj hF
      exact hend _ _ _ _ hP hD hS dX11_make_46
    · have hF := zif c_5 hF
      refine lv_iload_n hx hb dX11_make_23 rfl (lv_at hl 2 rfl) ?_
      refine lv_iconst (v := 0) hx hb dX11_make_24 (by decide) ?_
      refine lv_sipush (v := 1000) hx hb dX11_make_25 (by decide) ?_
      obtain ⟨u_6, hu_6, hF⟩ := zbd hF
      refine zcall_i (va_runS (As := [.int x2, .int (0 : Int32), .int (1000 : Int32)]) (rest := []) ⟨hx, hb, hml, hown, hts⟩ (qX11_within l D E KL kc on rw rd ft tr (va_up la on.2.1 L) mo N _ x2 (0 : Int32) (1000 : Int32) _ hu_6) (va_cwS 3 hts (zgS k1_10 k1_11 k0_1 k1_12) rfl rfl rfl (by decide +kernel) ⟨Nat.le_of_ble_eq_true rfl, Nat.le_of_ble_eq_true rfl⟩) (zps hE hS hA hK hP hD) rfl rfl hl.1 rfl (lv_room (Nat.le_of_ble_eq_true rfl)) dX11_make_28 ⟨Nat.zero_le _, Nat.zero_le _⟩) hD hS hA (fun H locs hP hD hS => ?_)
      refine lv_if_eq (tgt := 44) hx hb dX11_make_31 (by decide) (fun c_7 => ?_) (fun c_7 => ?_)
      · have hF := zit c_7 hF
        refine lv_ldc (own := RX11) (v := -1000001) hx hb hown (zh hts k1_13) dX11_make_44 ?_
        obtain rfl := Option.some.inj hF
        exact hend _ _ _ _ hP hD hS dX11_make_46
      · have hF := zif c_7 hF
        refine lv_iload_n hx hb dX11_make_34 rfl (lv_at hl 3 rfl) ?_
        refine lv_iconst (v := -1) hx hb dX11_make_35 (by decide) ?_
        refine lv_ldc (own := RX11) (v := 99999) hx hb hown (zh hts k3_101) dX11_make_36 ?_
        obtain ⟨u_8, hu_8, hF⟩ := zbd hF
        refine zcall_i (va_runS (As := [.int x3, .int (-1 : Int32), .int (99999 : Int32)]) (rest := []) ⟨hx, hb, hml, hown, hts⟩ (qX11_within l D E KL kc on rw rd ft tr (va_up la on.2.1 L) mo N _ x3 (-1 : Int32) (99999 : Int32) _ hu_8) (va_cwS 3 hts (zgS k1_10 k1_11 k0_1 k1_12) rfl rfl rfl (by decide +kernel) ⟨Nat.le_of_ble_eq_true rfl, Nat.le_of_ble_eq_true rfl⟩) (zps hE hS hA hK hP hD) rfl rfl hl.1 rfl (lv_room (Nat.le_of_ble_eq_true rfl)) dX11_make_38 ⟨Nat.zero_le _, Nat.zero_le _⟩) hD hS hA (fun H locs hP hD hS => ?_)
        refine lv_if_ne (tgt := 47) hx hb dX11_make_41 (by decide) (fun c_9 => ?_) (fun c_9 => ?_)
        · have hF := zif c_9 hF
          refine lv_aload_n hx hb dX11_make_47 rfl (lv_at hl 0 rfl) ?_
          refine va_get (D := D) (ci := 10) (v := .ref (E.1 (13 + 11 * on.2.1))) (C := RX11) (T := TX11) (N := 9) hx hb hts (zi iX11) hown hK hP 0 (zg_on _ _ _ _ _ _ _ _ _ _) rfl 6 (by decide) (zh hts k0_221) (fun _ h9 => h9) rfl dX11_make_48 ?_
          refine lv_aload_n hx hb dX11_make_51 rfl (lv_at hl 0 rfl) ?_
          refine va_get (D := D) (ci := 10) (v := .ref (E.1 (13 + 11 * on.2.1))) (C := RX11) (T := TX11) (N := 9) hx hb hts (zi iX11) hown hK hP 0 (zg_on _ _ _ _ _ _ _ _ _ _) rfl 6 (by decide) (zh hts k0_221) (fun _ h9 => h9) rfl dX11_make_52 ?_
          refine va_get (D := D) (ci := 3) (v := .int (L.1.1 1)) (C := RX4) (T := TX4) (N := 19) hx hb hts (zi iX4) hown hK hP (13 + 11 * on.2.1) (zg_L _ _ _ _ _ _ _ _ _ _ hj _) rfl 1 (by decide) (zh hts k0_105) (fun _ h9 => h9) rfl dX11_make_55 ?_
          have hrv_10 := (va_recv hK hP (ci := 3) (q0 := 13 + 11 * on.2.1) rfl (zg_L _ _ _ _ _ _ _ _ _ _ hj _))
          obtain ⟨u_11, hu_11, hF⟩ := zbd hF
          refine zcall_i (va_runV (As := [.int (L.1.1 1)]) (rest := []) ⟨hx, hb, hml, hown, hts⟩ (qX4_valueAt l D E KL kc on rw rd ft tr la mo on.2.1 hj L N _ (L.1.1 1) _ hu_11) (cwV 1 hts (zgV k2_105 k2_106 k2_107 k0_6 k2_108) rfl rfl rfl (by decide +kernel) ⟨Nat.le_of_ble_eq_true rfl, Nat.le_of_ble_eq_true rfl⟩) (zpv hE hS hA hK hP hD hrv_10) rfl rfl hl.1 rfl (lv_room (Nat.le_of_ble_eq_true rfl)) dX11_make_58 ⟨Nat.zero_le _, Nat.zero_le _⟩) hD hS hA (fun H locs hP hD hS => ?_)
          refine lv_iload_n hx hb dX11_make_61 rfl (lv_at hl 1 rfl) ?_
          refine lv_isub hx hb dX11_make_62 ?_
          refine lv_istore (lv' := [(4, .int (u_11 - x1)), (0, .ref (E.1 0)), (1, .int x1), (2, .int x2), (3, .int x3)]) hx hb dX11_make_63 hl (by decide) rfl (fun ls hl => ?_)
          refine lv_iload_n hx hb dX11_make_65 rfl (lv_at hl 4 rfl) ?_
          refine lv_iconst (v := -1) hx hb dX11_make_66 (by decide) ?_
          refine lv_icmp_ne (tgt := 77) hx hb dX11_make_67 (by decide) (fun c_12 => ?_) (fun c_12 => ?_)
          · have hF := zif c_12 hF
            refine lv_iload hx hb dX11_make_77 (lv_at hl 0 rfl) ?_
            refine lv_iload_n hx hb dX11_make_79 rfl (lv_at hl 3 rfl) ?_
            refine lv_iload_n hx hb dX11_make_80 rfl (lv_at hl 4 rfl) ?_
            refine lv_imul hx hb dX11_make_81 ?_
            refine lv_sipush (v := 1000) hx hb dX11_make_82 (by decide) ?_
            refine lv_idiv hx hb dX11_make_85 (by decide) ?_
            refine lv_icmp_le (tgt := 93) hx hb dX11_make_86 (by decide) (fun c_13 => ?_) (fun c_13 => ?_)
            · have hF := zit c_13 hF
              refine lv_iconst (v := 0) hx hb dX11_make_93 (by decide) ?_
              obtain rfl := Option.some.inj hF
              exact hend _ _ _ _ hP hD hS dX11_make_94
            · have hF := zif c_13 hF
              refine lv_iconst (v := 1) hx hb dX11_make_89 (by decide) ?_
              refine lv_goto (tgt := 94) hx hb dX11_make_90 (by decide) ?_
              obtain rfl := Option.some.inj hF
              exact hend _ _ _ _ hP hD hS dX11_make_94
          · have hF := zit c_12 hF
            refine lv_iload hx hb dX11_make_70 (lv_at hl 0 rfl) ?_
            refine lv_iload_n hx hb dX11_make_72 rfl (lv_at hl 3 rfl) ?_
            obtain ⟨u_14, hu_14, hF⟩ := zbd hF
            refine zcall_i (va_runS (As := [.int (u_11 - x1), .int x2]) (rest := []) ⟨hx, hb, hml, hown, hts⟩ (qX2_edge l D E KL kc on rw rd ft tr (va_up la on.2.1 L) mo N _ (u_11 - x1) x2 _ hu_14) (va_cwS 2 hts (zgS k3_102 k3_103 k0_5 k3_104) rfl rfl rfl (by decide +kernel) ⟨Nat.le_of_ble_eq_true rfl, Nat.le_of_ble_eq_true rfl⟩) (zps hE hS hA hK hP hD) rfl rfl hl.1 rfl (lv_room (Nat.le_of_ble_eq_true rfl)) dX11_make_73 ⟨Nat.zero_le _, Nat.zero_le _⟩) hD hS hA (fun H locs hP hD hS => ?_)
            obtain rfl := Option.some.inj hF
            exact hend _ _ _ _ hP hD hS dX11_make_76
        · have hF := zit c_9 hF
          refine lv_ldc (own := RX11) (v := -1000001) hx hb hown (zh hts k1_13) dX11_make_44 ?_
          obtain rfl := Option.some.inj hF
          exact hend _ _ _ _ hP hD hS dX11_make_46
  · have hF := zit c_3 hF
    refine lv_ldc (own := RX11) (v := -1000002) hx hb hown (zh hts k2_104) dX11_make_10 ?_
    obtain rfl := Option.some.inj hF
    exact hend _ _ _ _ hP hD hS dX11_make_12
def fX11_alone (N : Nat) (L : zLS) (x1 : Int32) (x2 : Int32) (x3 : Int32) : Option Int32 :=
  (fX4_isTold N L).bind fun u_2 =>
  if u_2 = 0 then
    some (-1000002 : Int32)
  else
    (fX11_within N x1 (0 : Int32) (L.1.1 1)).bind fun u_4 =>
    if u_4 = 0 then
      some (-1000001 : Int32)
    else
      (fX11_within N x2 (1 : Int32) (9 : Int32)).bind fun u_6 =>
      if u_6 = 0 then
        some (-1000001 : Int32)
      else
        (fX11_within N x3 (0 : Int32) (1 : Int32)).bind fun u_8 =>
        if u_8 = 0 then
          some (-1000001 : Int32)
        else
          if x3 = 0 then
            (fX2_valueAlone N L x1 x2).bind fun u_12 =>
            some u_12
          else
            (fX2_whenAlone N L x1 x2).bind fun u_11 =>
            some u_11
set_option maxHeartbeats 4000000 in
set_option maxRecDepth 100000 in
theorem qX11_alone (l : Launch) (D : va_G) (E : zE) (KL : List Nat) (kc : Nat → zKC) (on : zNS) (rw rd ft tr : zOS) (la : Nat → zLS) (mo : zMS) (hj : on.2.1 < 5) (L : zLS) (N sz : Nat) (x1 : Int32) (x2 : Int32) (x3 : Int32) (out : Int32) (hF : fX11_alone N L x1 x2 x3 = some out) : zCi l yX11_alone zwX11_alone ({ frames := 3, cells := 0, slots := 0, locals := 74 }) [.ref (E.1 0), .int x1, .int x2, .int x3] D E sz (zW E KL kc on rw rd ft tr (va_up la on.2.1 L) mo) (zW E KL kc on rw rd ft tr (va_up la on.2.1 L) mo) out 0 0 := by
  refine zent_i (cc := cX11_alone) (nL := 4) (by decide) rfl (Nat.le_of_ble_eq_true rfl) ?_
  intro p e s m args below meth c Q A hx hb hml hown hts hA hK hP hD hS hE ls hl hend
  have hown : s.vm.findClass RX11 = some m.cls := hown
  have hl : lv_has ls 4 [(0, .ref (E.1 0)), (1, .int x1), (2, .int x2), (3, .int x3)] := hl
  rw [fX11_alone] at hF
  refine lv_aload_n hx hb dX11_alone_0 rfl (lv_at hl 0 rfl) ?_
  refine va_get (D := D) (ci := 10) (v := .ref (E.1 (13 + 11 * on.2.1))) (C := RX11) (T := TX11) (N := 9) hx hb hts (zi iX11) hown hK hP 0 (zg_on _ _ _ _ _ _ _ _ _ _) rfl 6 (by decide) (zh hts k0_221) (fun _ h9 => h9) rfl dX11_alone_1 ?_
  have hrv_1 := (va_recv hK hP (ci := 3) (q0 := 13 + 11 * on.2.1) rfl (zg_L _ _ _ _ _ _ _ _ _ _ hj _))
  obtain ⟨u_2, hu_2, hF⟩ := zbd hF
  refine zcall_i (va_runV (As := []) (rest := []) ⟨hx, hb, hml, hown, hts⟩ (qX4_isTold l D E KL kc on rw rd ft tr la mo on.2.1 hj L N _ _ hu_2) (cwV 0 hts (zgV k2_100 k2_101 k2_102 k0_6 k2_103) rfl rfl rfl (by decide +kernel) ⟨Nat.le_of_ble_eq_true rfl, Nat.le_of_ble_eq_true rfl⟩) (zpv hE hS hA hK hP hD hrv_1) rfl rfl hl.1 rfl (lv_room (Nat.le_of_ble_eq_true rfl)) dX11_alone_4 ⟨Nat.zero_le _, Nat.zero_le _⟩) hD hS hA (fun H locs hP hD hS => ?_)
  refine lv_if_ne (tgt := 13) hx hb dX11_alone_7 (by decide) (fun c_3 => ?_) (fun c_3 => ?_)
  · have hF := zif c_3 hF
    refine lv_iload_n hx hb dX11_alone_13 rfl (lv_at hl 1 rfl) ?_
    refine lv_iconst (v := 0) hx hb dX11_alone_14 (by decide) ?_
    refine lv_aload_n hx hb dX11_alone_15 rfl (lv_at hl 0 rfl) ?_
    refine va_get (D := D) (ci := 10) (v := .ref (E.1 (13 + 11 * on.2.1))) (C := RX11) (T := TX11) (N := 9) hx hb hts (zi iX11) hown hK hP 0 (zg_on _ _ _ _ _ _ _ _ _ _) rfl 6 (by decide) (zh hts k0_221) (fun _ h9 => h9) rfl dX11_alone_16 ?_
    refine va_get (D := D) (ci := 3) (v := .int (L.1.1 1)) (C := RX4) (T := TX4) (N := 19) hx hb hts (zi iX4) hown hK hP (13 + 11 * on.2.1) (zg_L _ _ _ _ _ _ _ _ _ _ hj _) rfl 1 (by decide) (zh hts k0_105) (fun _ h9 => h9) rfl dX11_alone_19 ?_
    obtain ⟨u_4, hu_4, hF⟩ := zbd hF
    refine zcall_i (va_runS (As := [.int x1, .int (0 : Int32), .int (L.1.1 1)]) (rest := []) ⟨hx, hb, hml, hown, hts⟩ (qX11_within l D E KL kc on rw rd ft tr (va_up la on.2.1 L) mo N _ x1 (0 : Int32) (L.1.1 1) _ hu_4) (va_cwS 3 hts (zgS k1_10 k1_11 k0_1 k1_12) rfl rfl rfl (by decide +kernel) ⟨Nat.le_of_ble_eq_true rfl, Nat.le_of_ble_eq_true rfl⟩) (zps hE hS hA hK hP hD) rfl rfl hl.1 rfl (lv_room (Nat.le_of_ble_eq_true rfl)) dX11_alone_22 ⟨Nat.zero_le _, Nat.zero_le _⟩) hD hS hA (fun H locs hP hD hS => ?_)
    refine lv_if_eq (tgt := 47) hx hb dX11_alone_25 (by decide) (fun c_5 => ?_) (fun c_5 => ?_)
    · have hF := zit c_5 hF
      refine lv_ldc (own := RX11) (v := -1000001) hx hb hown (zh hts k1_13) dX11_alone_47 ?_
      obtain rfl := Option.some.inj hF
      exact hend _ _ _ _ hP hD hS dX11_alone_49
    · have hF := zif c_5 hF
      refine lv_iload_n hx hb dX11_alone_28 rfl (lv_at hl 2 rfl) ?_
      refine lv_iconst (v := 1) hx hb dX11_alone_29 (by decide) ?_
      refine lv_bipush (v := 9) hx hb dX11_alone_30 (by decide) ?_
      obtain ⟨u_6, hu_6, hF⟩ := zbd hF
      refine zcall_i (va_runS (As := [.int x2, .int (1 : Int32), .int (9 : Int32)]) (rest := []) ⟨hx, hb, hml, hown, hts⟩ (qX11_within l D E KL kc on rw rd ft tr (va_up la on.2.1 L) mo N _ x2 (1 : Int32) (9 : Int32) _ hu_6) (va_cwS 3 hts (zgS k1_10 k1_11 k0_1 k1_12) rfl rfl rfl (by decide +kernel) ⟨Nat.le_of_ble_eq_true rfl, Nat.le_of_ble_eq_true rfl⟩) (zps hE hS hA hK hP hD) rfl rfl hl.1 rfl (lv_room (Nat.le_of_ble_eq_true rfl)) dX11_alone_32 ⟨Nat.zero_le _, Nat.zero_le _⟩) hD hS hA (fun H locs hP hD hS => ?_)
      refine lv_if_eq (tgt := 47) hx hb dX11_alone_35 (by decide) (fun c_7 => ?_) (fun c_7 => ?_)
      · have hF := zit c_7 hF
        refine lv_ldc (own := RX11) (v := -1000001) hx hb hown (zh hts k1_13) dX11_alone_47 ?_
        obtain rfl := Option.some.inj hF
        exact hend _ _ _ _ hP hD hS dX11_alone_49
      · have hF := zif c_7 hF
        refine lv_iload_n hx hb dX11_alone_38 rfl (lv_at hl 3 rfl) ?_
        refine lv_iconst (v := 0) hx hb dX11_alone_39 (by decide) ?_
        refine lv_iconst (v := 1) hx hb dX11_alone_40 (by decide) ?_
        obtain ⟨u_8, hu_8, hF⟩ := zbd hF
        refine zcall_i (va_runS (As := [.int x3, .int (0 : Int32), .int (1 : Int32)]) (rest := []) ⟨hx, hb, hml, hown, hts⟩ (qX11_within l D E KL kc on rw rd ft tr (va_up la on.2.1 L) mo N _ x3 (0 : Int32) (1 : Int32) _ hu_8) (va_cwS 3 hts (zgS k1_10 k1_11 k0_1 k1_12) rfl rfl rfl (by decide +kernel) ⟨Nat.le_of_ble_eq_true rfl, Nat.le_of_ble_eq_true rfl⟩) (zps hE hS hA hK hP hD) rfl rfl hl.1 rfl (lv_room (Nat.le_of_ble_eq_true rfl)) dX11_alone_41 ⟨Nat.zero_le _, Nat.zero_le _⟩) hD hS hA (fun H locs hP hD hS => ?_)
        refine lv_if_ne (tgt := 50) hx hb dX11_alone_44 (by decide) (fun c_9 => ?_) (fun c_9 => ?_)
        · have hF := zif c_9 hF
          refine lv_iload_n hx hb dX11_alone_50 rfl (lv_at hl 3 rfl) ?_
          refine lv_if_ne (tgt := 66) hx hb dX11_alone_51 (by decide) (fun c_10 => ?_) (fun c_10 => ?_)
          · have hF := zif c_10 hF
            refine lv_aload_n hx hb dX11_alone_66 rfl (lv_at hl 0 rfl) ?_
            refine va_get (D := D) (ci := 10) (v := .ref (E.1 (13 + 11 * on.2.1))) (C := RX11) (T := TX11) (N := 9) hx hb hts (zi iX11) hown hK hP 0 (zg_on _ _ _ _ _ _ _ _ _ _) rfl 6 (by decide) (zh hts k0_221) (fun _ h9 => h9) rfl dX11_alone_67 ?_
            refine lv_iload_n hx hb dX11_alone_70 rfl (lv_at hl 1 rfl) ?_
            refine lv_iload_n hx hb dX11_alone_71 rfl (lv_at hl 2 rfl) ?_
            obtain ⟨u_11, hu_11, hF⟩ := zbd hF
            refine zcall_i (va_runS (As := [.ref (E.1 (13 + 11 * on.2.1)), .int x1, .int x2]) (rest := []) ⟨hx, hb, hml, hown, hts⟩ (qX2_whenAlone l D E KL kc on rw rd ft tr la mo on.2.1 hj L N _ x1 x2 _ hu_11) (va_cwS 3 hts (zgS k3_26 k3_27 k0_5 k3_28) rfl rfl rfl (by decide +kernel) ⟨Nat.le_of_ble_eq_true rfl, Nat.le_of_ble_eq_true rfl⟩) (zps hE hS hA hK hP hD) rfl rfl hl.1 rfl (lv_room (Nat.le_of_ble_eq_true rfl)) dX11_alone_72 ⟨Nat.zero_le _, Nat.zero_le _⟩) hD hS hA (fun H locs hP hD hS => ?_)
            obtain rfl := Option.some.inj hF
            exact hend _ _ _ _ hP hD hS dX11_alone_75
          · have hF := zit c_10 hF
            refine lv_aload_n hx hb dX11_alone_54 rfl (lv_at hl 0 rfl) ?_
            refine va_get (D := D) (ci := 10) (v := .ref (E.1 (13 + 11 * on.2.1))) (C := RX11) (T := TX11) (N := 9) hx hb hts (zi iX11) hown hK hP 0 (zg_on _ _ _ _ _ _ _ _ _ _) rfl 6 (by decide) (zh hts k0_221) (fun _ h9 => h9) rfl dX11_alone_55 ?_
            refine lv_iload_n hx hb dX11_alone_58 rfl (lv_at hl 1 rfl) ?_
            refine lv_iload_n hx hb dX11_alone_59 rfl (lv_at hl 2 rfl) ?_
            obtain ⟨u_12, hu_12, hF⟩ := zbd hF
            refine zcall_i (va_runS (As := [.ref (E.1 (13 + 11 * on.2.1)), .int x1, .int x2]) (rest := []) ⟨hx, hb, hml, hown, hts⟩ (qX2_valueAlone l D E KL kc on rw rd ft tr la mo on.2.1 hj L N _ x1 x2 _ hu_12) (va_cwS 3 hts (zgS k3_15 k3_16 k0_5 k3_17) rfl rfl rfl (by decide +kernel) ⟨Nat.le_of_ble_eq_true rfl, Nat.le_of_ble_eq_true rfl⟩) (zps hE hS hA hK hP hD) rfl rfl hl.1 rfl (lv_room (Nat.le_of_ble_eq_true rfl)) dX11_alone_60 ⟨Nat.zero_le _, Nat.zero_le _⟩) hD hS hA (fun H locs hP hD hS => ?_)
            refine lv_goto (tgt := 75) hx hb dX11_alone_63 (by decide) ?_
            obtain rfl := Option.some.inj hF
            exact hend _ _ _ _ hP hD hS dX11_alone_75
        · have hF := zit c_9 hF
          refine lv_ldc (own := RX11) (v := -1000001) hx hb hown (zh hts k1_13) dX11_alone_47 ?_
          obtain rfl := Option.some.inj hF
          exact hend _ _ _ _ hP hD hS dX11_alone_49
  · have hF := zit c_3 hF
    refine lv_ldc (own := RX11) (v := -1000002) hx hb hown (zh hts k2_104) dX11_alone_10 ?_
    obtain rfl := Option.some.inj hF
    exact hend _ _ _ _ hP hD hS dX11_alone_12
def fX11_best (N : Nat) (L : zLS) (x1 : Int32) : Option Int32 :=
  (fX4_isTold N L).bind fun u_2 =>
  if u_2 = 0 then
    some (-1000002 : Int32)
  else
    (fX11_within N x1 (0 : Int32) (L.1.1 1)).bind fun u_4 =>
    if u_4 = 0 then
      some (-1000001 : Int32)
    else
      (fX2_bestCopies N L x1).bind fun u_6 =>
      some u_6
set_option maxHeartbeats 4000000 in
set_option maxRecDepth 100000 in
theorem qX11_best (l : Launch) (D : va_G) (E : zE) (KL : List Nat) (kc : Nat → zKC) (on : zNS) (rw rd ft tr : zOS) (la : Nat → zLS) (mo : zMS) (hj : on.2.1 < 5) (L : zLS) (N sz : Nat) (x1 : Int32) (out : Int32) (hF : fX11_best N L x1 = some out) : zCi l yX11_best zwX11_best ({ frames := 4, cells := 0, slots := 0, locals := 96 }) [.ref (E.1 0), .int x1] D E sz (zW E KL kc on rw rd ft tr (va_up la on.2.1 L) mo) (zW E KL kc on rw rd ft tr (va_up la on.2.1 L) mo) out 0 0 := by
  refine zent_i (cc := cX11_best) (nL := 2) (by decide) rfl (Nat.le_of_ble_eq_true rfl) ?_
  intro p e s m args below meth c Q A hx hb hml hown hts hA hK hP hD hS hE ls hl hend
  have hown : s.vm.findClass RX11 = some m.cls := hown
  have hl : lv_has ls 2 [(0, .ref (E.1 0)), (1, .int x1)] := hl
  rw [fX11_best] at hF
  refine lv_aload_n hx hb dX11_best_0 rfl (lv_at hl 0 rfl) ?_
  refine va_get (D := D) (ci := 10) (v := .ref (E.1 (13 + 11 * on.2.1))) (C := RX11) (T := TX11) (N := 9) hx hb hts (zi iX11) hown hK hP 0 (zg_on _ _ _ _ _ _ _ _ _ _) rfl 6 (by decide) (zh hts k0_221) (fun _ h9 => h9) rfl dX11_best_1 ?_
  have hrv_1 := (va_recv hK hP (ci := 3) (q0 := 13 + 11 * on.2.1) rfl (zg_L _ _ _ _ _ _ _ _ _ _ hj _))
  obtain ⟨u_2, hu_2, hF⟩ := zbd hF
  refine zcall_i (va_runV (As := []) (rest := []) ⟨hx, hb, hml, hown, hts⟩ (qX4_isTold l D E KL kc on rw rd ft tr la mo on.2.1 hj L N _ _ hu_2) (cwV 0 hts (zgV k2_100 k2_101 k2_102 k0_6 k2_103) rfl rfl rfl (by decide +kernel) ⟨Nat.le_of_ble_eq_true rfl, Nat.le_of_ble_eq_true rfl⟩) (zpv hE hS hA hK hP hD hrv_1) rfl rfl hl.1 rfl (lv_room (Nat.le_of_ble_eq_true rfl)) dX11_best_4 ⟨Nat.zero_le _, Nat.zero_le _⟩) hD hS hA (fun H locs hP hD hS => ?_)
  refine lv_if_ne (tgt := 13) hx hb dX11_best_7 (by decide) (fun c_3 => ?_) (fun c_3 => ?_)
  · have hF := zif c_3 hF
    refine lv_iload_n hx hb dX11_best_13 rfl (lv_at hl 1 rfl) ?_
    refine lv_iconst (v := 0) hx hb dX11_best_14 (by decide) ?_
    refine lv_aload_n hx hb dX11_best_15 rfl (lv_at hl 0 rfl) ?_
    refine va_get (D := D) (ci := 10) (v := .ref (E.1 (13 + 11 * on.2.1))) (C := RX11) (T := TX11) (N := 9) hx hb hts (zi iX11) hown hK hP 0 (zg_on _ _ _ _ _ _ _ _ _ _) rfl 6 (by decide) (zh hts k0_221) (fun _ h9 => h9) rfl dX11_best_16 ?_
    refine va_get (D := D) (ci := 3) (v := .int (L.1.1 1)) (C := RX4) (T := TX4) (N := 19) hx hb hts (zi iX4) hown hK hP (13 + 11 * on.2.1) (zg_L _ _ _ _ _ _ _ _ _ _ hj _) rfl 1 (by decide) (zh hts k0_105) (fun _ h9 => h9) rfl dX11_best_19 ?_
    obtain ⟨u_4, hu_4, hF⟩ := zbd hF
    refine zcall_i (va_runS (As := [.int x1, .int (0 : Int32), .int (L.1.1 1)]) (rest := []) ⟨hx, hb, hml, hown, hts⟩ (qX11_within l D E KL kc on rw rd ft tr (va_up la on.2.1 L) mo N _ x1 (0 : Int32) (L.1.1 1) _ hu_4) (va_cwS 3 hts (zgS k1_10 k1_11 k0_1 k1_12) rfl rfl rfl (by decide +kernel) ⟨Nat.le_of_ble_eq_true rfl, Nat.le_of_ble_eq_true rfl⟩) (zps hE hS hA hK hP hD) rfl rfl hl.1 rfl (lv_room (Nat.le_of_ble_eq_true rfl)) dX11_best_22 ⟨Nat.zero_le _, Nat.zero_le _⟩) hD hS hA (fun H locs hP hD hS => ?_)
    refine lv_if_eq (tgt := 39) hx hb dX11_best_25 (by decide) (fun c_5 => ?_) (fun c_5 => ?_)
    · have hF := zit c_5 hF
      refine lv_ldc (own := RX11) (v := -1000001) hx hb hown (zh hts k1_13) dX11_best_39 ?_
      obtain rfl := Option.some.inj hF
      exact hend _ _ _ _ hP hD hS dX11_best_41
    · have hF := zif c_5 hF
      refine lv_aload_n hx hb dX11_best_28 rfl (lv_at hl 0 rfl) ?_
      refine va_get (D := D) (ci := 10) (v := .ref (E.1 (13 + 11 * on.2.1))) (C := RX11) (T := TX11) (N := 9) hx hb hts (zi iX11) hown hK hP 0 (zg_on _ _ _ _ _ _ _ _ _ _) rfl 6 (by decide) (zh hts k0_221) (fun _ h9 => h9) rfl dX11_best_29 ?_
      refine lv_iload_n hx hb dX11_best_32 rfl (lv_at hl 1 rfl) ?_
      obtain ⟨u_6, hu_6, hF⟩ := zbd hF
      refine zcall_i (va_runS (As := [.ref (E.1 (13 + 11 * on.2.1)), .int x1]) (rest := []) ⟨hx, hb, hml, hown, hts⟩ (qX2_bestCopies l D E KL kc on rw rd ft tr la mo on.2.1 hj L N _ x1 _ hu_6) (va_cwS 2 hts (zgS k3_33 k3_34 k0_5 k3_35) rfl rfl rfl (by decide +kernel) ⟨Nat.le_of_ble_eq_true rfl, Nat.le_of_ble_eq_true rfl⟩) (zps hE hS hA hK hP hD) rfl rfl hl.1 rfl (lv_room (Nat.le_of_ble_eq_true rfl)) dX11_best_33 ⟨Nat.zero_le _, Nat.zero_le _⟩) hD hS hA (fun H locs hP hD hS => ?_)
      refine lv_goto (tgt := 41) hx hb dX11_best_36 (by decide) ?_
      obtain rfl := Option.some.inj hF
      exact hend _ _ _ _ hP hD hS dX11_best_41
  · have hF := zit c_3 hF
    refine lv_ldc (own := RX11) (v := -1000002) hx hb hown (zh hts k2_104) dX11_best_10 ?_
    obtain rfl := Option.some.inj hF
    exact hend _ _ _ _ hP hD hS dX11_best_12
def fX11_two (N : Nat) (L : zLS) (x1 : Int32) (x2 : Int32) (x3 : Int32) : Option Int32 :=
  (fX4_isTold N L).bind fun u_2 =>
  if u_2 = 0 then
    some (-1000002 : Int32)
  else
    (fX11_within N x1 (0 : Int32) (L.1.1 1)).bind fun u_4 =>
    if u_4 = 0 then
      some (-1000001 : Int32)
    else
      (fX11_within N x2 (0 : Int32) (100 : Int32)).bind fun u_6 =>
      if u_6 = 0 then
        some (-1000001 : Int32)
      else
        (fX11_within N x3 (0 : Int32) (1 : Int32)).bind fun u_8 =>
        if u_8 = 0 then
          some (-1000001 : Int32)
        else
          (fX2_ofTwo N L x1 x2 x3).bind fun u_10 =>
          some u_10
set_option maxHeartbeats 4000000 in
set_option maxRecDepth 100000 in
theorem qX11_two (l : Launch) (D : va_G) (E : zE) (KL : List Nat) (kc : Nat → zKC) (on : zNS) (rw rd ft tr : zOS) (la : Nat → zLS) (mo : zMS) (hj : on.2.1 < 5) (L : zLS) (N sz : Nat) (x1 : Int32) (x2 : Int32) (x3 : Int32) (out : Int32) (hF : fX11_two N L x1 x2 x3 = some out) : zCi l yX11_two zwX11_two ({ frames := 3, cells := 0, slots := 0, locals := 78 }) [.ref (E.1 0), .int x1, .int x2, .int x3] D E sz (zW E KL kc on rw rd ft tr (va_up la on.2.1 L) mo) (zW E KL kc on rw rd ft tr (va_up la on.2.1 L) mo) out 0 0 := by
  refine zent_i (cc := cX11_two) (nL := 4) (by decide) rfl (Nat.le_of_ble_eq_true rfl) ?_
  intro p e s m args below meth c Q A hx hb hml hown hts hA hK hP hD hS hE ls hl hend
  have hown : s.vm.findClass RX11 = some m.cls := hown
  have hl : lv_has ls 4 [(0, .ref (E.1 0)), (1, .int x1), (2, .int x2), (3, .int x3)] := hl
  rw [fX11_two] at hF
  refine lv_aload_n hx hb dX11_two_0 rfl (lv_at hl 0 rfl) ?_
  refine va_get (D := D) (ci := 10) (v := .ref (E.1 (13 + 11 * on.2.1))) (C := RX11) (T := TX11) (N := 9) hx hb hts (zi iX11) hown hK hP 0 (zg_on _ _ _ _ _ _ _ _ _ _) rfl 6 (by decide) (zh hts k0_221) (fun _ h9 => h9) rfl dX11_two_1 ?_
  have hrv_1 := (va_recv hK hP (ci := 3) (q0 := 13 + 11 * on.2.1) rfl (zg_L _ _ _ _ _ _ _ _ _ _ hj _))
  obtain ⟨u_2, hu_2, hF⟩ := zbd hF
  refine zcall_i (va_runV (As := []) (rest := []) ⟨hx, hb, hml, hown, hts⟩ (qX4_isTold l D E KL kc on rw rd ft tr la mo on.2.1 hj L N _ _ hu_2) (cwV 0 hts (zgV k2_100 k2_101 k2_102 k0_6 k2_103) rfl rfl rfl (by decide +kernel) ⟨Nat.le_of_ble_eq_true rfl, Nat.le_of_ble_eq_true rfl⟩) (zpv hE hS hA hK hP hD hrv_1) rfl rfl hl.1 rfl (lv_room (Nat.le_of_ble_eq_true rfl)) dX11_two_4 ⟨Nat.zero_le _, Nat.zero_le _⟩) hD hS hA (fun H locs hP hD hS => ?_)
  refine lv_if_ne (tgt := 13) hx hb dX11_two_7 (by decide) (fun c_3 => ?_) (fun c_3 => ?_)
  · have hF := zif c_3 hF
    refine lv_iload_n hx hb dX11_two_13 rfl (lv_at hl 1 rfl) ?_
    refine lv_iconst (v := 0) hx hb dX11_two_14 (by decide) ?_
    refine lv_aload_n hx hb dX11_two_15 rfl (lv_at hl 0 rfl) ?_
    refine va_get (D := D) (ci := 10) (v := .ref (E.1 (13 + 11 * on.2.1))) (C := RX11) (T := TX11) (N := 9) hx hb hts (zi iX11) hown hK hP 0 (zg_on _ _ _ _ _ _ _ _ _ _) rfl 6 (by decide) (zh hts k0_221) (fun _ h9 => h9) rfl dX11_two_16 ?_
    refine va_get (D := D) (ci := 3) (v := .int (L.1.1 1)) (C := RX4) (T := TX4) (N := 19) hx hb hts (zi iX4) hown hK hP (13 + 11 * on.2.1) (zg_L _ _ _ _ _ _ _ _ _ _ hj _) rfl 1 (by decide) (zh hts k0_105) (fun _ h9 => h9) rfl dX11_two_19 ?_
    obtain ⟨u_4, hu_4, hF⟩ := zbd hF
    refine zcall_i (va_runS (As := [.int x1, .int (0 : Int32), .int (L.1.1 1)]) (rest := []) ⟨hx, hb, hml, hown, hts⟩ (qX11_within l D E KL kc on rw rd ft tr (va_up la on.2.1 L) mo N _ x1 (0 : Int32) (L.1.1 1) _ hu_4) (va_cwS 3 hts (zgS k1_10 k1_11 k0_1 k1_12) rfl rfl rfl (by decide +kernel) ⟨Nat.le_of_ble_eq_true rfl, Nat.le_of_ble_eq_true rfl⟩) (zps hE hS hA hK hP hD) rfl rfl hl.1 rfl (lv_room (Nat.le_of_ble_eq_true rfl)) dX11_two_22 ⟨Nat.zero_le _, Nat.zero_le _⟩) hD hS hA (fun H locs hP hD hS => ?_)
    refine lv_if_eq (tgt := 47) hx hb dX11_two_25 (by decide) (fun c_5 => ?_) (fun c_5 => ?_)
    · have hF := zit c_5 hF
      refine lv_ldc (own := RX11) (v := -1000001) hx hb hown (zh hts k1_13) dX11_two_47 ?_
      obtain rfl := Option.some.inj hF
      exact hend _ _ _ _ hP hD hS dX11_two_49
    · have hF := zif c_5 hF
      refine lv_iload_n hx hb dX11_two_28 rfl (lv_at hl 2 rfl) ?_
      refine lv_iconst (v := 0) hx hb dX11_two_29 (by decide) ?_
      refine lv_bipush (v := 100) hx hb dX11_two_30 (by decide) ?_
      obtain ⟨u_6, hu_6, hF⟩ := zbd hF
      refine zcall_i (va_runS (As := [.int x2, .int (0 : Int32), .int (100 : Int32)]) (rest := []) ⟨hx, hb, hml, hown, hts⟩ (qX11_within l D E KL kc on rw rd ft tr (va_up la on.2.1 L) mo N _ x2 (0 : Int32) (100 : Int32) _ hu_6) (va_cwS 3 hts (zgS k1_10 k1_11 k0_1 k1_12) rfl rfl rfl (by decide +kernel) ⟨Nat.le_of_ble_eq_true rfl, Nat.le_of_ble_eq_true rfl⟩) (zps hE hS hA hK hP hD) rfl rfl hl.1 rfl (lv_room (Nat.le_of_ble_eq_true rfl)) dX11_two_32 ⟨Nat.zero_le _, Nat.zero_le _⟩) hD hS hA (fun H locs hP hD hS => ?_)
      refine lv_if_eq (tgt := 47) hx hb dX11_two_35 (by decide) (fun c_7 => ?_) (fun c_7 => ?_)
      · have hF := zit c_7 hF
        refine lv_ldc (own := RX11) (v := -1000001) hx hb hown (zh hts k1_13) dX11_two_47 ?_
        obtain rfl := Option.some.inj hF
        exact hend _ _ _ _ hP hD hS dX11_two_49
      · have hF := zif c_7 hF
        refine lv_iload_n hx hb dX11_two_38 rfl (lv_at hl 3 rfl) ?_
        refine lv_iconst (v := 0) hx hb dX11_two_39 (by decide) ?_
        refine lv_iconst (v := 1) hx hb dX11_two_40 (by decide) ?_
        obtain ⟨u_8, hu_8, hF⟩ := zbd hF
        refine zcall_i (va_runS (As := [.int x3, .int (0 : Int32), .int (1 : Int32)]) (rest := []) ⟨hx, hb, hml, hown, hts⟩ (qX11_within l D E KL kc on rw rd ft tr (va_up la on.2.1 L) mo N _ x3 (0 : Int32) (1 : Int32) _ hu_8) (va_cwS 3 hts (zgS k1_10 k1_11 k0_1 k1_12) rfl rfl rfl (by decide +kernel) ⟨Nat.le_of_ble_eq_true rfl, Nat.le_of_ble_eq_true rfl⟩) (zps hE hS hA hK hP hD) rfl rfl hl.1 rfl (lv_room (Nat.le_of_ble_eq_true rfl)) dX11_two_41 ⟨Nat.zero_le _, Nat.zero_le _⟩) hD hS hA (fun H locs hP hD hS => ?_)
        refine lv_if_ne (tgt := 50) hx hb dX11_two_44 (by decide) (fun c_9 => ?_) (fun c_9 => ?_)
        · have hF := zif c_9 hF
          refine lv_aload_n hx hb dX11_two_50 rfl (lv_at hl 0 rfl) ?_
          refine va_get (D := D) (ci := 10) (v := .ref (E.1 (13 + 11 * on.2.1))) (C := RX11) (T := TX11) (N := 9) hx hb hts (zi iX11) hown hK hP 0 (zg_on _ _ _ _ _ _ _ _ _ _) rfl 6 (by decide) (zh hts k0_221) (fun _ h9 => h9) rfl dX11_two_51 ?_
          refine lv_iload_n hx hb dX11_two_54 rfl (lv_at hl 1 rfl) ?_
          refine lv_iload_n hx hb dX11_two_55 rfl (lv_at hl 2 rfl) ?_
          refine lv_iload_n hx hb dX11_two_56 rfl (lv_at hl 3 rfl) ?_
          obtain ⟨u_10, hu_10, hF⟩ := zbd hF
          refine zcall_i (va_runS (As := [.ref (E.1 (13 + 11 * on.2.1)), .int x1, .int x2, .int x3]) (rest := []) ⟨hx, hb, hml, hown, hts⟩ (qX2_ofTwo l D E KL kc on rw rd ft tr la mo on.2.1 hj L N _ x1 x2 x3 _ hu_10) (va_cwS 4 hts (zgS k3_41 k3_42 k0_5 k3_43) rfl rfl rfl (by decide +kernel) ⟨Nat.le_of_ble_eq_true rfl, Nat.le_of_ble_eq_true rfl⟩) (zps hE hS hA hK hP hD) rfl rfl hl.1 rfl (lv_room (Nat.le_of_ble_eq_true rfl)) dX11_two_57 ⟨Nat.zero_le _, Nat.zero_le _⟩) hD hS hA (fun H locs hP hD hS => ?_)
          obtain rfl := Option.some.inj hF
          exact hend _ _ _ _ hP hD hS dX11_two_60
        · have hF := zit c_9 hF
          refine lv_ldc (own := RX11) (v := -1000001) hx hb hown (zh hts k1_13) dX11_two_47 ?_
          obtain rfl := Option.some.inj hF
          exact hend _ _ _ _ hP hD hS dX11_two_49
  · have hF := zit c_3 hF
    refine lv_ldc (own := RX11) (v := -1000002) hx hb hown (zh hts k2_104) dX11_two_10 ?_
    obtain rfl := Option.some.inj hF
    exact hend _ _ _ _ hP hD hS dX11_two_12
def fX11_corner (N : Nat) (KL : List Nat) (kc : Nat → zKC) (ft : zOS) (L : zLS) (x1 : Int32) (x2 : Int32) (x3 : Int32) (x4 : Int32) : Option (Int32 × zOS) :=
  (fX4_isKeeper N L x1).bind fun u_2 =>
  if u_2 = 0 then
    some ((-1000001 : Int32), ft)
  else
    (fX4_isPiece N L x2).bind fun u_5 =>
    if u_5 = 0 then
      some ((-1000001 : Int32), ft)
    else
      (fX11_within N x3 (0 : Int32) (999 : Int32)).bind fun u_7 =>
      if u_7 = 0 then
        some ((-1000001 : Int32), ft)
      else
        if (-1 : Int32) ≤ x4 then
          (fX4_countOf N L x1 x2).bind fun u_11 =>
          if (1 : Int32) ≤ u_11 then
            (fX2_findCorner N KL kc ft L x1 x2 x3).bind fun u_13 =>
            if x4 = (-1 : Int32) then
              some (u_13.1 0, u_13)
            else
              (fX2_boughtAt N u_13 x4).bind fun u_15 =>
              some (u_15, u_13)
          else
            some ((-1000002 : Int32), ft)
        else
          some ((-1000001 : Int32), ft)
set_option maxHeartbeats 4000000 in
set_option maxRecDepth 100000 in
theorem qX11_corner (l : Launch) (D : va_G) (E : zE) (KL : List Nat) (kc : Nat → zKC) (on : zNS) (rw rd ft tr : zOS) (la : Nat → zLS) (mo : zMS) (hj : on.2.1 < 5) (L : zLS) (N sz : Nat) (x1 : Int32) (x2 : Int32) (x3 : Int32) (x4 : Int32) (out : Int32 × zOS) (hF : fX11_corner N KL kc ft L x1 x2 x3 x4 = some out) : zCi l yX11_corner zwX11_corner ({ frames := 4, cells := 0, slots := 0, locals := 108 }) [.ref (E.1 0), .int x1, .int x2, .int x3, .int x4] D E sz (zW E KL kc on rw rd ft tr (va_up la on.2.1 L) mo) (zW E KL kc on rw rd out.2 tr (va_up la on.2.1 L) mo) out.1 0 0 := by
  refine zent_i (cc := cX11_corner) (nL := 5) (by decide) rfl (Nat.le_of_ble_eq_true rfl) ?_
  intro p e s m args below meth c Q A hx hb hml hown hts hA hK hP hD hS hE ls hl hend
  have hown : s.vm.findClass RX11 = some m.cls := hown
  have hl : lv_has ls 5 [(0, .ref (E.1 0)), (1, .int x1), (2, .int x2), (3, .int x3), (4, .int x4)] := hl
  rw [fX11_corner] at hF
  refine lv_aload_n hx hb dX11_corner_0 rfl (lv_at hl 0 rfl) ?_
  refine va_get (D := D) (ci := 10) (v := .ref (E.1 (13 + 11 * on.2.1))) (C := RX11) (T := TX11) (N := 9) hx hb hts (zi iX11) hown hK hP 0 (zg_on _ _ _ _ _ _ _ _ _ _) rfl 6 (by decide) (zh hts k0_221) (fun _ h9 => h9) rfl dX11_corner_1 ?_
  refine lv_iload_n hx hb dX11_corner_4 rfl (lv_at hl 1 rfl) ?_
  have hrv_1 := (va_recv hK hP (ci := 3) (q0 := 13 + 11 * on.2.1) rfl (zg_L _ _ _ _ _ _ _ _ _ _ hj _))
  obtain ⟨u_2, hu_2, hF⟩ := zbd hF
  refine zcall_i (va_runV (As := [.int x1]) (rest := []) ⟨hx, hb, hml, hown, hts⟩ (qX4_isKeeper l D E KL kc on rw rd ft tr la mo on.2.1 hj L N _ x1 _ hu_2) (cwV 1 hts (zgV k2_212 k2_170 k2_171 k0_6 k2_172) rfl rfl rfl (by decide +kernel) ⟨Nat.le_of_ble_eq_true rfl, Nat.le_of_ble_eq_true rfl⟩) (zpv hE hS hA hK hP hD hrv_1) rfl rfl hl.1 rfl (lv_room (Nat.le_of_ble_eq_true rfl)) dX11_corner_5 ⟨Nat.zero_le _, Nat.zero_le _⟩) hD hS hA (fun H locs hP hD hS => ?_)
  refine lv_if_eq (tgt := 39) hx hb dX11_corner_8 (by decide) (fun c_3 => ?_) (fun c_3 => ?_)
  · have hF := zit c_3 hF
    refine lv_ldc (own := RX11) (v := -1000001) hx hb hown (zh hts k1_13) dX11_corner_39 ?_
    obtain rfl := Option.some.inj hF
    exact hend _ _ _ _ hP hD hS dX11_corner_41
  · have hF := zif c_3 hF
    refine lv_aload_n hx hb dX11_corner_11 rfl (lv_at hl 0 rfl) ?_
    refine va_get (D := D) (ci := 10) (v := .ref (E.1 (13 + 11 * on.2.1))) (C := RX11) (T := TX11) (N := 9) hx hb hts (zi iX11) hown hK hP 0 (zg_on _ _ _ _ _ _ _ _ _ _) rfl 6 (by decide) (zh hts k0_221) (fun _ h9 => h9) rfl dX11_corner_12 ?_
    refine lv_iload_n hx hb dX11_corner_15 rfl (lv_at hl 2 rfl) ?_
    have hrv_4 := (va_recv hK hP (ci := 3) (q0 := 13 + 11 * on.2.1) rfl (zg_L _ _ _ _ _ _ _ _ _ _ hj _))
    obtain ⟨u_5, hu_5, hF⟩ := zbd hF
    refine zcall_i (va_runV (As := [.int x2]) (rest := []) ⟨hx, hb, hml, hown, hts⟩ (qX4_isPiece l D E KL kc on rw rd ft tr la mo on.2.1 hj L N _ x2 _ hu_5) (cwV 1 hts (zgV k2_213 k2_174 k2_175 k0_6 k2_176) rfl rfl rfl (by decide +kernel) ⟨Nat.le_of_ble_eq_true rfl, Nat.le_of_ble_eq_true rfl⟩) (zpv hE hS hA hK hP hD hrv_4) rfl rfl hl.1 rfl (lv_room (Nat.le_of_ble_eq_true rfl)) dX11_corner_16 ⟨Nat.zero_le _, Nat.zero_le _⟩) hD hS hA (fun H locs hP hD hS => ?_)
    refine lv_if_eq (tgt := 39) hx hb dX11_corner_19 (by decide) (fun c_6 => ?_) (fun c_6 => ?_)
    · have hF := zit c_6 hF
      refine lv_ldc (own := RX11) (v := -1000001) hx hb hown (zh hts k1_13) dX11_corner_39 ?_
      obtain rfl := Option.some.inj hF
      exact hend _ _ _ _ hP hD hS dX11_corner_41
    · have hF := zif c_6 hF
      refine lv_iload_n hx hb dX11_corner_22 rfl (lv_at hl 3 rfl) ?_
      refine lv_iconst (v := 0) hx hb dX11_corner_23 (by decide) ?_
      refine lv_sipush (v := 999) hx hb dX11_corner_24 (by decide) ?_
      obtain ⟨u_7, hu_7, hF⟩ := zbd hF
      refine zcall_i (va_runS (As := [.int x3, .int (0 : Int32), .int (999 : Int32)]) (rest := []) ⟨hx, hb, hml, hown, hts⟩ (qX11_within l D E KL kc on rw rd ft tr (va_up la on.2.1 L) mo N _ x3 (0 : Int32) (999 : Int32) _ hu_7) (va_cwS 3 hts (zgS k1_10 k1_11 k0_1 k1_12) rfl rfl rfl (by decide +kernel) ⟨Nat.le_of_ble_eq_true rfl, Nat.le_of_ble_eq_true rfl⟩) (zps hE hS hA hK hP hD) rfl rfl hl.1 rfl (lv_room (Nat.le_of_ble_eq_true rfl)) dX11_corner_27 ⟨Nat.zero_le _, Nat.zero_le _⟩) hD hS hA (fun H locs hP hD hS => ?_)
      refine lv_if_eq (tgt := 39) hx hb dX11_corner_30 (by decide) (fun c_8 => ?_) (fun c_8 => ?_)
      · have hF := zit c_8 hF
        refine lv_ldc (own := RX11) (v := -1000001) hx hb hown (zh hts k1_13) dX11_corner_39 ?_
        obtain rfl := Option.some.inj hF
        exact hend _ _ _ _ hP hD hS dX11_corner_41
      · have hF := zif c_8 hF
        refine lv_iload hx hb dX11_corner_33 (lv_at hl 4 rfl) ?_
        refine lv_iconst (v := -1) hx hb dX11_corner_35 (by decide) ?_
        refine lv_icmp_ge (tgt := 42) hx hb dX11_corner_36 (by decide) (fun c_9 => ?_) (fun c_9 => ?_)
        · have hF := zit c_9 hF
          refine lv_aload_n hx hb dX11_corner_42 rfl (lv_at hl 0 rfl) ?_
          refine va_get (D := D) (ci := 10) (v := .ref (E.1 (13 + 11 * on.2.1))) (C := RX11) (T := TX11) (N := 9) hx hb hts (zi iX11) hown hK hP 0 (zg_on _ _ _ _ _ _ _ _ _ _) rfl 6 (by decide) (zh hts k0_221) (fun _ h9 => h9) rfl dX11_corner_43 ?_
          refine lv_iload_n hx hb dX11_corner_46 rfl (lv_at hl 1 rfl) ?_
          refine lv_iload_n hx hb dX11_corner_47 rfl (lv_at hl 2 rfl) ?_
          have hrv_10 := (va_recv hK hP (ci := 3) (q0 := 13 + 11 * on.2.1) rfl (zg_L _ _ _ _ _ _ _ _ _ _ hj _))
          obtain ⟨u_11, hu_11, hF⟩ := zbd hF
          refine zcall_i (va_runV (As := [.int x1, .int x2]) (rest := []) ⟨hx, hb, hml, hown, hts⟩ (qX4_countOf l D E KL kc on rw rd ft tr la mo on.2.1 hj L N _ x1 x2 _ hu_11) (cwV 2 hts (zgV k2_214 k2_134 k2_135 k0_6 k2_136) rfl rfl rfl (by decide +kernel) ⟨Nat.le_of_ble_eq_true rfl, Nat.le_of_ble_eq_true rfl⟩) (zpv hE hS hA hK hP hD hrv_10) rfl rfl hl.1 rfl (lv_room (Nat.le_of_ble_eq_true rfl)) dX11_corner_48 ⟨Nat.zero_le _, Nat.zero_le _⟩) hD hS hA (fun H locs hP hD hS => ?_)
          refine lv_iconst (v := 1) hx hb dX11_corner_51 (by decide) ?_
          refine lv_icmp_ge (tgt := 58) hx hb dX11_corner_52 (by decide) (fun c_12 => ?_) (fun c_12 => ?_)
          · have hF := zit c_12 hF
            refine lv_aload_n hx hb dX11_corner_58 rfl (lv_at hl 0 rfl) ?_
            refine va_get (D := D) (ci := 10) (v := .ref (E.1 7)) (C := RX11) (T := TX11) (N := 9) hx hb hts (zi iX11) hown hK hP 0 (zg_on _ _ _ _ _ _ _ _ _ _) rfl 2 (by decide) (zh hts k0_217) (fun _ h9 => h9) rfl dX11_corner_59 ?_
            refine lv_aload_n hx hb dX11_corner_62 rfl (lv_at hl 0 rfl) ?_
            refine va_get (D := D) (ci := 10) (v := .ref (E.1 (13 + 11 * on.2.1))) (C := RX11) (T := TX11) (N := 9) hx hb hts (zi iX11) hown hK hP 0 (zg_on _ _ _ _ _ _ _ _ _ _) rfl 6 (by decide) (zh hts k0_221) (fun _ h9 => h9) rfl dX11_corner_63 ?_
            refine lv_iload_n hx hb dX11_corner_66 rfl (lv_at hl 1 rfl) ?_
            refine lv_iload_n hx hb dX11_corner_67 rfl (lv_at hl 2 rfl) ?_
            refine lv_iload_n hx hb dX11_corner_68 rfl (lv_at hl 3 rfl) ?_
            obtain ⟨u_13, hu_13, hF⟩ := zbd hF
            refine zcall_v (va_runV (As := [.ref (E.1 (13 + 11 * on.2.1)), .int x1, .int x2, .int x3]) (rest := []) ⟨hx, hb, hml, hown, hts⟩ (qX2_findCorner l D E KL kc on rw rd ft tr la mo on.2.1 hj L N _ x1 x2 x3 _ hu_13) (cwV 4 hts (zgV k3_63 k3_64 k3_65 k0_5 k3_66) rfl rfl rfl (by decide +kernel) ⟨Nat.le_of_ble_eq_true rfl, Nat.le_of_ble_eq_true rfl⟩) (zpv hE hS hA hK hP hD (va_recv hK hP (ci := 2) (q0 := 7) rfl (zg_ft _ _ _ _ _ _ _ _ _ _))) rfl rfl hl.1 rfl (lv_room (Nat.le_of_ble_eq_true rfl)) dX11_corner_69 ⟨Nat.zero_le _, Nat.zero_le _⟩) hD hS hA (fun H locs hP hD hS => ?_)
            refine lv_iload hx hb dX11_corner_72 (lv_at hl 4 rfl) ?_
            refine lv_iconst (v := -1) hx hb dX11_corner_74 (by decide) ?_
            refine lv_icmp_ne (tgt := 88) hx hb dX11_corner_75 (by decide) (fun c_14 => ?_) (fun c_14 => ?_)
            · have hF := zif c_14 hF
              refine lv_aload_n hx hb dX11_corner_88 rfl (lv_at hl 0 rfl) ?_
              refine va_get (D := D) (ci := 10) (v := .ref (E.1 7)) (C := RX11) (T := TX11) (N := 9) hx hb hts (zi iX11) hown hK hP 0 (zg_on _ _ _ _ _ _ _ _ _ _) rfl 2 (by decide) (zh hts k0_217) (fun _ h9 => h9) rfl dX11_corner_89 ?_
              refine lv_iload hx hb dX11_corner_92 (lv_at hl 4 rfl) ?_
              obtain ⟨u_15, hu_15, hF⟩ := zbd hF
              refine zcall_i (va_runV (As := [.int x4]) (rest := []) ⟨hx, hb, hml, hown, hts⟩ (qX2_boughtAt l D E KL kc on rw rd u_13 tr (va_up la on.2.1 L) mo N _ x4 _ hu_15) (cwV 1 hts (zgV k3_92 k3_93 k3_94 k0_5 k3_95) rfl rfl rfl (by decide +kernel) ⟨Nat.le_of_ble_eq_true rfl, Nat.le_of_ble_eq_true rfl⟩) (zpv hE hS hA hK hP hD (va_recv hK hP (ci := 2) (q0 := 7) rfl (zg_ft _ _ _ _ _ _ _ _ _ _))) rfl rfl hl.1 rfl (lv_room (Nat.le_of_ble_eq_true rfl)) dX11_corner_94 ⟨Nat.zero_le _, Nat.zero_le _⟩) hD hS hA (fun H locs hP hD hS => ?_)
              obtain rfl := Option.some.inj hF
              exact hend _ _ _ _ hP hD hS dX11_corner_97
            · have hF := zit c_14 hF
              refine lv_aload_n hx hb dX11_corner_78 rfl (lv_at hl 0 rfl) ?_
              refine va_get (D := D) (ci := 10) (v := .ref (E.1 7)) (C := RX11) (T := TX11) (N := 9) hx hb hts (zi iX11) hown hK hP 0 (zg_on _ _ _ _ _ _ _ _ _ _) rfl 2 (by decide) (zh hts k0_217) (fun _ h9 => h9) rfl dX11_corner_79 ?_
              refine va_get (D := D) (ci := 2) (v := .int (u_13.1 0)) (C := RX2) (T := TX2) (N := 7) hx hb hts (zi iX2) hown hK hP 7 (zg_ft _ _ _ _ _ _ _ _ _ _) rfl 0 (by decide) (zh hts k0_178) (fun _ h9 => h9) rfl dX11_corner_82 ?_
              refine lv_goto (tgt := 97) hx hb dX11_corner_85 (by decide) ?_
              obtain rfl := Option.some.inj hF
              exact hend _ _ _ _ hP hD hS dX11_corner_97
          · have hF := zif c_12 hF
            refine lv_ldc (own := RX11) (v := -1000002) hx hb hown (zh hts k2_104) dX11_corner_55 ?_
            obtain rfl := Option.some.inj hF
            exact hend _ _ _ _ hP hD hS dX11_corner_57
        · have hF := zif c_9 hF
          refine lv_ldc (own := RX11) (v := -1000001) hx hb hown (zh hts k1_13) dX11_corner_39 ?_
          obtain rfl := Option.some.inj hF
          exact hend _ _ _ _ hP hD hS dX11_corner_41
def fX11_as (N : Nat) (KL : List Nat) (kc : Nat → zKC) (on : zNS) (L : zLS) (x1 : Int32) (x2 : Int32) : Option (Int32 × zNS) :=
  (fX4_keeperAt N KL kc L x1).bind fun u_2 =>
  match u_2 with
  | none =>
    some ((-1000001 : Int32), on)
  | some a_3 =>
    if ¬ zkd KL kc a_3 then none else
    (fX11_within N x2 (0 : Int32) (5 : Int32)).bind fun u_5 =>
    if u_5 = 0 then
      some ((-1000001 : Int32), on)
    else
      if (kc a_3).1 = 0 then
        (fX0_isOf N kc a_3 x2).bind fun u_8 =>
        if u_8 = 0 then
          (fX11_found N on (3 : Int32)).bind fun u_11 =>
          some (u_11.1, u_11.2)
        else
          (fX11_fine N on x1).bind fun u_12 =>
          some (u_12.1, u_12.2)
      else if (kc a_3).1 = 1 then
        (fX0_isOf N kc a_3 x2).bind fun u_14 =>
        if u_14 = 0 then
          (fX11_found N on (3 : Int32)).bind fun u_17 =>
          some (u_17.1, u_17.2)
        else
          (fX11_fine N on x1).bind fun u_18 =>
          some (u_18.1, u_18.2)
      else if (kc a_3).1 = 4 then
        (fX3_isOf N kc a_3 x2).bind fun u_20 =>
        if u_20 = 0 then
          (fX11_found N on (3 : Int32)).bind fun u_23 =>
          some (u_23.1, u_23.2)
        else
          (fX11_fine N on x1).bind fun u_24 =>
          some (u_24.1, u_24.2)
      else if (kc a_3).1 = 7 then
        (fX3_isOf N kc a_3 x2).bind fun u_26 =>
        if u_26 = 0 then
          (fX11_found N on (3 : Int32)).bind fun u_29 =>
          some (u_29.1, u_29.2)
        else
          (fX11_fine N on x1).bind fun u_30 =>
          some (u_30.1, u_30.2)
      else if (kc a_3).1 = 9 then
        (fX0_isOf N kc a_3 x2).bind fun u_32 =>
        if u_32 = 0 then
          (fX11_found N on (3 : Int32)).bind fun u_35 =>
          some (u_35.1, u_35.2)
        else
          (fX11_fine N on x1).bind fun u_36 =>
          some (u_36.1, u_36.2)
      else none
set_option maxHeartbeats 4000000 in
set_option maxRecDepth 100000 in
theorem qX11_as (l : Launch) (D : va_G) (E : zE) (KL : List Nat) (kc : Nat → zKC) (on : zNS) (rw rd ft tr : zOS) (la : Nat → zLS) (mo : zMS) (hj : on.2.1 < 5) (L : zLS) (N sz : Nat) (x1 : Int32) (x2 : Int32) (out : Int32 × zNS) (hF : fX11_as N KL kc on L x1 x2 = some out) : zCi l yX11_as zwX11_as ({ frames := 3, cells := 0, slots := 0, locals := 62 }) [.ref (E.1 0), .int x1, .int x2] D E sz (zW E KL kc on rw rd ft tr (va_up la on.2.1 L) mo) (zW E KL kc out.2 rw rd ft tr (va_up la on.2.1 L) mo) out.1 0 0 := by
  refine zent_i (cc := cX11_as) (nL := 4) (by decide) rfl (Nat.le_of_ble_eq_true rfl) ?_
  intro p e s m args below meth c Q A hx hb hml hown hts hA hK hP hD hS hE ls hl hend
  have hown : s.vm.findClass RX11 = some m.cls := hown
  have hl : lv_has ls 4 [(0, .ref (E.1 0)), (1, .int x1), (2, .int x2)] := hl
  rw [fX11_as] at hF
  refine lv_aload_n hx hb dX11_as_0 rfl (lv_at hl 0 rfl) ?_
  refine va_get (D := D) (ci := 10) (v := .ref (E.1 (13 + 11 * on.2.1))) (C := RX11) (T := TX11) (N := 9) hx hb hts (zi iX11) hown hK hP 0 (zg_on _ _ _ _ _ _ _ _ _ _) rfl 6 (by decide) (zh hts k0_221) (fun _ h9 => h9) rfl dX11_as_1 ?_
  refine lv_iload_n hx hb dX11_as_4 rfl (lv_at hl 1 rfl) ?_
  have hrv_1 := (va_recv hK hP (ci := 3) (q0 := 13 + 11 * on.2.1) rfl (zg_L _ _ _ _ _ _ _ _ _ _ hj _))
  obtain ⟨u_2, hu_2, hF⟩ := zbd hF
  refine zcall_q (va_runV (As := [.int x1]) (rest := []) ⟨hx, hb, hml, hown, hts⟩ (qX4_keeperAt l D E KL kc on rw rd ft tr la mo on.2.1 hj L N _ x1 _ hu_2) (cwV 1 hts (zgV k3_178 k2_84 k2_85 k0_6 k2_86) rfl rfl rfl (by decide +kernel) ⟨Nat.le_of_ble_eq_true rfl, Nat.le_of_ble_eq_true rfl⟩) (zpv hE hS hA hK hP hD hrv_1) rfl rfl hl.1 rfl (lv_room (Nat.le_of_ble_eq_true rfl)) dX11_as_5 ⟨Nat.zero_le _, Nat.zero_le _⟩) hD hS hA (fun H locs hP hD hS => ?_)
  cases u_2 with
  | none =>
    refine lv_astore_nN (lv' := [(3, .null), (0, .ref (E.1 0)), (1, .int x1), (2, .int x2)]) hx hb dX11_as_8 rfl hl (by decide) rfl (fun ls hl => ?_)
    refine lv_aload_nN hx hb dX11_as_9 rfl (lv_at hl 0 rfl) ?_
    refine lv_ifnullN (tgt := 22) hx hb dX11_as_10 (by decide) ?_
    refine lv_ldc (own := RX11) (v := -1000001) hx hb hown (zh hts k1_13) dX11_as_22 ?_
    obtain rfl := Option.some.inj hF
    exact hend _ _ _ _ hP hD hS dX11_as_24
  | some a_3 =>
    obtain ⟨k_4, hF⟩ := zgd hF
    have k_4 := Decidable.not_not.mp k_4
    have km_3 := k_4.1
    have k_4 := k_4.2
    refine lv_astore_n (lv' := [(3, .ref a_3), (0, .ref (E.1 0)), (1, .int x1), (2, .int x2)]) hx hb dX11_as_8 rfl hl (by decide) rfl (fun ls hl => ?_)
    refine lv_aload_n hx hb dX11_as_9 rfl (lv_at hl 0 rfl) ?_
    refine lv_ifnull hx hb dX11_as_10 ?_
    refine lv_iload_n hx hb dX11_as_13 rfl (lv_at hl 3 rfl) ?_
    refine lv_iconst (v := 0) hx hb dX11_as_14 (by decide) ?_
    refine lv_iconst (v := 5) hx hb dX11_as_15 (by decide) ?_
    obtain ⟨u_5, hu_5, hF⟩ := zbd hF
    refine zcall_i (va_runS (As := [.int x2, .int (0 : Int32), .int (5 : Int32)]) (rest := []) ⟨hx, hb, hml, hown, hts⟩ (qX11_within l D E KL kc on rw rd ft tr (va_up la on.2.1 L) mo N _ x2 (0 : Int32) (5 : Int32) _ hu_5) (va_cwS 3 hts (zgS k1_10 k1_11 k0_1 k1_12) rfl rfl rfl (by decide +kernel) ⟨Nat.le_of_ble_eq_true rfl, Nat.le_of_ble_eq_true rfl⟩) (zps hE hS hA hK hP hD) rfl rfl hl.1 rfl (lv_room (Nat.le_of_ble_eq_true rfl)) dX11_as_16 ⟨Nat.zero_le _, Nat.zero_le _⟩) hD hS hA (fun H locs hP hD hS => ?_)
    refine lv_if_ne (tgt := 25) hx hb dX11_as_19 (by decide) (fun c_6 => ?_) (fun c_6 => ?_)
    · have hF := zif c_6 hF
      refine lv_aload_n hx hb dX11_as_25 rfl (lv_at hl 0 rfl) ?_
      refine lv_iload_n hx hb dX11_as_26 rfl (lv_at hl 3 rfl) ?_
      by_cases kk_7 : (kc a_3).1 = 0
      · have hF := zit kk_7 hF
        obtain ⟨u_8, hu_8, hF⟩ := zbd hF
        obtain ⟨q_9, hq_9⟩ := zg_K E KL kc on rw rd ft tr (va_up la on.2.1 L) mo km_3 kk_7
        refine zcall_i (va_runU (As := [.int x2]) (rest := []) ⟨hx, hb, hml, hown, hts⟩ (qX0_isOf l D E KL kc on rw rd ft tr (va_up la on.2.1 L) mo a_3 km_3 (by omega) N _ x2 _ hu_8) (va_cwO 1 hts (zgO k3_201 k3_203 k3_202 k3_204 k3_205 k0_17 k3_206) rfl rfl rfl (b0 := cX3_isOf) (m0 := 2) (r0 := some .boolean) (List.mem_cons_of_mem _ k3_212) (by decide +kernel) ⟨Nat.le_of_ble_eq_true rfl, Nat.le_of_ble_eq_true rfl⟩) (zpv hE hS hA hK hP hD (va_recv hK hP (ci := 0) (q0 := q_9) rfl hq_9)) rfl rfl hl.1 rfl (lv_room (Nat.le_of_ble_eq_true rfl)) dX11_as_27 ⟨Nat.zero_le _, Nat.zero_le _⟩) hD hS hA (fun H locs hP hD hS => ?_)
        refine lv_if_eq (tgt := 41) hx hb dX11_as_30 (by decide) (fun c_10 => ?_) (fun c_10 => ?_)
        · have hF := zit c_10 hF
          refine lv_aload_n hx hb dX11_as_41 rfl (lv_at hl 1 rfl) ?_
          refine lv_iconst (v := 3) hx hb dX11_as_42 (by decide) ?_
          obtain ⟨u_11, hu_11, hF⟩ := zbd hF
          refine zcall_i (va_runV (As := [.int (3 : Int32)]) (rest := []) ⟨hx, hb, hml, hown, hts⟩ (qX11_found l D E KL kc on rw rd ft tr (va_up la on.2.1 L) mo N _ (3 : Int32) _ hu_11) (cwV 1 hts (zgV k1_14 k1_16 kp0_0 k0_1 k1_17) rfl rfl rfl (by decide +kernel) ⟨Nat.le_of_ble_eq_true rfl, Nat.le_of_ble_eq_true rfl⟩) (zpv hE hS hA hK hP hD (va_recv hK hP (ci := 10) (q0 := 0) rfl (zg_on _ _ _ _ _ _ _ _ _ _))) rfl rfl hl.1 rfl (lv_room (Nat.le_of_ble_eq_true rfl)) dX11_as_43 ⟨Nat.zero_le _, Nat.zero_le _⟩) hD hS hA (fun H locs hP hD hS => ?_)
          obtain rfl := Option.some.inj hF
          exact hend _ _ _ _ hP hD hS dX11_as_46
        · have hF := zif c_10 hF
          refine lv_aload_n hx hb dX11_as_33 rfl (lv_at hl 1 rfl) ?_
          refine lv_iload_n hx hb dX11_as_34 rfl (lv_at hl 2 rfl) ?_
          obtain ⟨u_12, hu_12, hF⟩ := zbd hF
          refine zcall_i (va_runV (As := [.int x1]) (rest := []) ⟨hx, hb, hml, hown, hts⟩ (qX11_fine l D E KL kc on rw rd ft tr (va_up la on.2.1 L) mo N _ x1 _ hu_12) (cwV 1 hts (zgV k1_30 k1_32 kp0_1 k0_1 k1_33) rfl rfl rfl (by decide +kernel) ⟨Nat.le_of_ble_eq_true rfl, Nat.le_of_ble_eq_true rfl⟩) (zpv hE hS hA hK hP hD (va_recv hK hP (ci := 10) (q0 := 0) rfl (zg_on _ _ _ _ _ _ _ _ _ _))) rfl rfl hl.1 rfl (lv_room (Nat.le_of_ble_eq_true rfl)) dX11_as_35 ⟨Nat.zero_le _, Nat.zero_le _⟩) hD hS hA (fun H locs hP hD hS => ?_)
          refine lv_goto (tgt := 46) hx hb dX11_as_38 (by decide) ?_
          obtain rfl := Option.some.inj hF
          exact hend _ _ _ _ hP hD hS dX11_as_46
      · have hF := zif kk_7 hF
        by_cases kk_13 : (kc a_3).1 = 1
        · have hF := zit kk_13 hF
          obtain ⟨u_14, hu_14, hF⟩ := zbd hF
          obtain ⟨q_15, hq_15⟩ := zg_K E KL kc on rw rd ft tr (va_up la on.2.1 L) mo km_3 kk_13
          refine zcall_i (va_runU (As := [.int x2]) (rest := []) ⟨hx, hb, hml, hown, hts⟩ (qX0_isOf l D E KL kc on rw rd ft tr (va_up la on.2.1 L) mo a_3 km_3 (by omega) N _ x2 _ hu_14) (va_cwO 1 hts (zgO k3_201 k3_203 k3_202 k3_208 k3_205 k0_17 k3_206) rfl rfl rfl (b0 := cX3_isOf) (m0 := 2) (r0 := some .boolean) (List.mem_cons_of_mem _ k3_212) (by decide +kernel) ⟨Nat.le_of_ble_eq_true rfl, Nat.le_of_ble_eq_true rfl⟩) (zpv hE hS hA hK hP hD (va_recv hK hP (ci := 1) (q0 := q_15) rfl hq_15)) rfl rfl hl.1 rfl (lv_room (Nat.le_of_ble_eq_true rfl)) dX11_as_27 ⟨Nat.zero_le _, Nat.zero_le _⟩) hD hS hA (fun H locs hP hD hS => ?_)
          refine lv_if_eq (tgt := 41) hx hb dX11_as_30 (by decide) (fun c_16 => ?_) (fun c_16 => ?_)
          · have hF := zit c_16 hF
            refine lv_aload_n hx hb dX11_as_41 rfl (lv_at hl 1 rfl) ?_
            refine lv_iconst (v := 3) hx hb dX11_as_42 (by decide) ?_
            obtain ⟨u_17, hu_17, hF⟩ := zbd hF
            refine zcall_i (va_runV (As := [.int (3 : Int32)]) (rest := []) ⟨hx, hb, hml, hown, hts⟩ (qX11_found l D E KL kc on rw rd ft tr (va_up la on.2.1 L) mo N _ (3 : Int32) _ hu_17) (cwV 1 hts (zgV k1_14 k1_16 kp0_0 k0_1 k1_17) rfl rfl rfl (by decide +kernel) ⟨Nat.le_of_ble_eq_true rfl, Nat.le_of_ble_eq_true rfl⟩) (zpv hE hS hA hK hP hD (va_recv hK hP (ci := 10) (q0 := 0) rfl (zg_on _ _ _ _ _ _ _ _ _ _))) rfl rfl hl.1 rfl (lv_room (Nat.le_of_ble_eq_true rfl)) dX11_as_43 ⟨Nat.zero_le _, Nat.zero_le _⟩) hD hS hA (fun H locs hP hD hS => ?_)
            obtain rfl := Option.some.inj hF
            exact hend _ _ _ _ hP hD hS dX11_as_46
          · have hF := zif c_16 hF
            refine lv_aload_n hx hb dX11_as_33 rfl (lv_at hl 1 rfl) ?_
            refine lv_iload_n hx hb dX11_as_34 rfl (lv_at hl 2 rfl) ?_
            obtain ⟨u_18, hu_18, hF⟩ := zbd hF
            refine zcall_i (va_runV (As := [.int x1]) (rest := []) ⟨hx, hb, hml, hown, hts⟩ (qX11_fine l D E KL kc on rw rd ft tr (va_up la on.2.1 L) mo N _ x1 _ hu_18) (cwV 1 hts (zgV k1_30 k1_32 kp0_1 k0_1 k1_33) rfl rfl rfl (by decide +kernel) ⟨Nat.le_of_ble_eq_true rfl, Nat.le_of_ble_eq_true rfl⟩) (zpv hE hS hA hK hP hD (va_recv hK hP (ci := 10) (q0 := 0) rfl (zg_on _ _ _ _ _ _ _ _ _ _))) rfl rfl hl.1 rfl (lv_room (Nat.le_of_ble_eq_true rfl)) dX11_as_35 ⟨Nat.zero_le _, Nat.zero_le _⟩) hD hS hA (fun H locs hP hD hS => ?_)
            refine lv_goto (tgt := 46) hx hb dX11_as_38 (by decide) ?_
            obtain rfl := Option.some.inj hF
            exact hend _ _ _ _ hP hD hS dX11_as_46
        · have hF := zif kk_13 hF
          by_cases kk_19 : (kc a_3).1 = 4
          · have hF := zit kk_19 hF
            obtain ⟨u_20, hu_20, hF⟩ := zbd hF
            obtain ⟨q_21, hq_21⟩ := zg_K E KL kc on rw rd ft tr (va_up la on.2.1 L) mo km_3 kk_19
            refine zcall_i (va_runU (As := [.int x2]) (rest := []) ⟨hx, hb, hml, hown, hts⟩ (qX3_isOf l D E KL kc on rw rd ft tr (va_up la on.2.1 L) mo a_3 km_3 (by omega) N _ x2 _ hu_20) (va_cwU 1 hts (zgU k3_201 k3_203 k3_209 k3_202 k0_15 k3_212) rfl rfl rfl rfl (by decide +kernel) ⟨Nat.le_of_ble_eq_true rfl, Nat.le_of_ble_eq_true rfl⟩) (zpv hE hS hA hK hP hD (va_recv hK hP (ci := 4) (q0 := q_21) rfl hq_21)) rfl rfl hl.1 rfl (lv_room (Nat.le_of_ble_eq_true rfl)) dX11_as_27 ⟨Nat.zero_le _, Nat.zero_le _⟩) hD hS hA (fun H locs hP hD hS => ?_)
            refine lv_if_eq (tgt := 41) hx hb dX11_as_30 (by decide) (fun c_22 => ?_) (fun c_22 => ?_)
            · have hF := zit c_22 hF
              refine lv_aload_n hx hb dX11_as_41 rfl (lv_at hl 1 rfl) ?_
              refine lv_iconst (v := 3) hx hb dX11_as_42 (by decide) ?_
              obtain ⟨u_23, hu_23, hF⟩ := zbd hF
              refine zcall_i (va_runV (As := [.int (3 : Int32)]) (rest := []) ⟨hx, hb, hml, hown, hts⟩ (qX11_found l D E KL kc on rw rd ft tr (va_up la on.2.1 L) mo N _ (3 : Int32) _ hu_23) (cwV 1 hts (zgV k1_14 k1_16 kp0_0 k0_1 k1_17) rfl rfl rfl (by decide +kernel) ⟨Nat.le_of_ble_eq_true rfl, Nat.le_of_ble_eq_true rfl⟩) (zpv hE hS hA hK hP hD (va_recv hK hP (ci := 10) (q0 := 0) rfl (zg_on _ _ _ _ _ _ _ _ _ _))) rfl rfl hl.1 rfl (lv_room (Nat.le_of_ble_eq_true rfl)) dX11_as_43 ⟨Nat.zero_le _, Nat.zero_le _⟩) hD hS hA (fun H locs hP hD hS => ?_)
              obtain rfl := Option.some.inj hF
              exact hend _ _ _ _ hP hD hS dX11_as_46
            · have hF := zif c_22 hF
              refine lv_aload_n hx hb dX11_as_33 rfl (lv_at hl 1 rfl) ?_
              refine lv_iload_n hx hb dX11_as_34 rfl (lv_at hl 2 rfl) ?_
              obtain ⟨u_24, hu_24, hF⟩ := zbd hF
              refine zcall_i (va_runV (As := [.int x1]) (rest := []) ⟨hx, hb, hml, hown, hts⟩ (qX11_fine l D E KL kc on rw rd ft tr (va_up la on.2.1 L) mo N _ x1 _ hu_24) (cwV 1 hts (zgV k1_30 k1_32 kp0_1 k0_1 k1_33) rfl rfl rfl (by decide +kernel) ⟨Nat.le_of_ble_eq_true rfl, Nat.le_of_ble_eq_true rfl⟩) (zpv hE hS hA hK hP hD (va_recv hK hP (ci := 10) (q0 := 0) rfl (zg_on _ _ _ _ _ _ _ _ _ _))) rfl rfl hl.1 rfl (lv_room (Nat.le_of_ble_eq_true rfl)) dX11_as_35 ⟨Nat.zero_le _, Nat.zero_le _⟩) hD hS hA (fun H locs hP hD hS => ?_)
              refine lv_goto (tgt := 46) hx hb dX11_as_38 (by decide) ?_
              obtain rfl := Option.some.inj hF
              exact hend _ _ _ _ hP hD hS dX11_as_46
          · have hF := zif kk_19 hF
            by_cases kk_25 : (kc a_3).1 = 7
            · have hF := zit kk_25 hF
              obtain ⟨u_26, hu_26, hF⟩ := zbd hF
              obtain ⟨q_27, hq_27⟩ := zg_K E KL kc on rw rd ft tr (va_up la on.2.1 L) mo km_3 kk_25
              refine zcall_i (va_runU (As := [.int x2]) (rest := []) ⟨hx, hb, hml, hown, hts⟩ (qX3_isOf l D E KL kc on rw rd ft tr (va_up la on.2.1 L) mo a_3 km_3 (by omega) N _ x2 _ hu_26) (va_cwU 1 hts (zgU k3_201 k3_203 k3_210 k3_202 k0_15 k3_212) rfl rfl rfl rfl (by decide +kernel) ⟨Nat.le_of_ble_eq_true rfl, Nat.le_of_ble_eq_true rfl⟩) (zpv hE hS hA hK hP hD (va_recv hK hP (ci := 7) (q0 := q_27) rfl hq_27)) rfl rfl hl.1 rfl (lv_room (Nat.le_of_ble_eq_true rfl)) dX11_as_27 ⟨Nat.zero_le _, Nat.zero_le _⟩) hD hS hA (fun H locs hP hD hS => ?_)
              refine lv_if_eq (tgt := 41) hx hb dX11_as_30 (by decide) (fun c_28 => ?_) (fun c_28 => ?_)
              · have hF := zit c_28 hF
                refine lv_aload_n hx hb dX11_as_41 rfl (lv_at hl 1 rfl) ?_
                refine lv_iconst (v := 3) hx hb dX11_as_42 (by decide) ?_
                obtain ⟨u_29, hu_29, hF⟩ := zbd hF
                refine zcall_i (va_runV (As := [.int (3 : Int32)]) (rest := []) ⟨hx, hb, hml, hown, hts⟩ (qX11_found l D E KL kc on rw rd ft tr (va_up la on.2.1 L) mo N _ (3 : Int32) _ hu_29) (cwV 1 hts (zgV k1_14 k1_16 kp0_0 k0_1 k1_17) rfl rfl rfl (by decide +kernel) ⟨Nat.le_of_ble_eq_true rfl, Nat.le_of_ble_eq_true rfl⟩) (zpv hE hS hA hK hP hD (va_recv hK hP (ci := 10) (q0 := 0) rfl (zg_on _ _ _ _ _ _ _ _ _ _))) rfl rfl hl.1 rfl (lv_room (Nat.le_of_ble_eq_true rfl)) dX11_as_43 ⟨Nat.zero_le _, Nat.zero_le _⟩) hD hS hA (fun H locs hP hD hS => ?_)
                obtain rfl := Option.some.inj hF
                exact hend _ _ _ _ hP hD hS dX11_as_46
              · have hF := zif c_28 hF
                refine lv_aload_n hx hb dX11_as_33 rfl (lv_at hl 1 rfl) ?_
                refine lv_iload_n hx hb dX11_as_34 rfl (lv_at hl 2 rfl) ?_
                obtain ⟨u_30, hu_30, hF⟩ := zbd hF
                refine zcall_i (va_runV (As := [.int x1]) (rest := []) ⟨hx, hb, hml, hown, hts⟩ (qX11_fine l D E KL kc on rw rd ft tr (va_up la on.2.1 L) mo N _ x1 _ hu_30) (cwV 1 hts (zgV k1_30 k1_32 kp0_1 k0_1 k1_33) rfl rfl rfl (by decide +kernel) ⟨Nat.le_of_ble_eq_true rfl, Nat.le_of_ble_eq_true rfl⟩) (zpv hE hS hA hK hP hD (va_recv hK hP (ci := 10) (q0 := 0) rfl (zg_on _ _ _ _ _ _ _ _ _ _))) rfl rfl hl.1 rfl (lv_room (Nat.le_of_ble_eq_true rfl)) dX11_as_35 ⟨Nat.zero_le _, Nat.zero_le _⟩) hD hS hA (fun H locs hP hD hS => ?_)
                refine lv_goto (tgt := 46) hx hb dX11_as_38 (by decide) ?_
                obtain rfl := Option.some.inj hF
                exact hend _ _ _ _ hP hD hS dX11_as_46
            · have hF := zif kk_25 hF
              by_cases kk_31 : (kc a_3).1 = 9
              · have hF := zit kk_31 hF
                obtain ⟨u_32, hu_32, hF⟩ := zbd hF
                obtain ⟨q_33, hq_33⟩ := zg_K E KL kc on rw rd ft tr (va_up la on.2.1 L) mo km_3 kk_31
                refine zcall_i (va_runU (As := [.int x2]) (rest := []) ⟨hx, hb, hml, hown, hts⟩ (qX0_isOf l D E KL kc on rw rd ft tr (va_up la on.2.1 L) mo a_3 km_3 (by omega) N _ x2 _ hu_32) (va_cwO 1 hts (zgO k3_201 k3_203 k3_202 k3_211 k3_205 k0_17 k3_206) rfl rfl rfl (b0 := cX3_isOf) (m0 := 2) (r0 := some .boolean) (List.mem_cons_of_mem _ k3_212) (by decide +kernel) ⟨Nat.le_of_ble_eq_true rfl, Nat.le_of_ble_eq_true rfl⟩) (zpv hE hS hA hK hP hD (va_recv hK hP (ci := 9) (q0 := q_33) rfl hq_33)) rfl rfl hl.1 rfl (lv_room (Nat.le_of_ble_eq_true rfl)) dX11_as_27 ⟨Nat.zero_le _, Nat.zero_le _⟩) hD hS hA (fun H locs hP hD hS => ?_)
                refine lv_if_eq (tgt := 41) hx hb dX11_as_30 (by decide) (fun c_34 => ?_) (fun c_34 => ?_)
                · have hF := zit c_34 hF
                  refine lv_aload_n hx hb dX11_as_41 rfl (lv_at hl 1 rfl) ?_
                  refine lv_iconst (v := 3) hx hb dX11_as_42 (by decide) ?_
                  obtain ⟨u_35, hu_35, hF⟩ := zbd hF
                  refine zcall_i (va_runV (As := [.int (3 : Int32)]) (rest := []) ⟨hx, hb, hml, hown, hts⟩ (qX11_found l D E KL kc on rw rd ft tr (va_up la on.2.1 L) mo N _ (3 : Int32) _ hu_35) (cwV 1 hts (zgV k1_14 k1_16 kp0_0 k0_1 k1_17) rfl rfl rfl (by decide +kernel) ⟨Nat.le_of_ble_eq_true rfl, Nat.le_of_ble_eq_true rfl⟩) (zpv hE hS hA hK hP hD (va_recv hK hP (ci := 10) (q0 := 0) rfl (zg_on _ _ _ _ _ _ _ _ _ _))) rfl rfl hl.1 rfl (lv_room (Nat.le_of_ble_eq_true rfl)) dX11_as_43 ⟨Nat.zero_le _, Nat.zero_le _⟩) hD hS hA (fun H locs hP hD hS => ?_)
                  obtain rfl := Option.some.inj hF
                  exact hend _ _ _ _ hP hD hS dX11_as_46
                · have hF := zif c_34 hF
                  refine lv_aload_n hx hb dX11_as_33 rfl (lv_at hl 1 rfl) ?_
                  refine lv_iload_n hx hb dX11_as_34 rfl (lv_at hl 2 rfl) ?_
                  obtain ⟨u_36, hu_36, hF⟩ := zbd hF
                  refine zcall_i (va_runV (As := [.int x1]) (rest := []) ⟨hx, hb, hml, hown, hts⟩ (qX11_fine l D E KL kc on rw rd ft tr (va_up la on.2.1 L) mo N _ x1 _ hu_36) (cwV 1 hts (zgV k1_30 k1_32 kp0_1 k0_1 k1_33) rfl rfl rfl (by decide +kernel) ⟨Nat.le_of_ble_eq_true rfl, Nat.le_of_ble_eq_true rfl⟩) (zpv hE hS hA hK hP hD (va_recv hK hP (ci := 10) (q0 := 0) rfl (zg_on _ _ _ _ _ _ _ _ _ _))) rfl rfl hl.1 rfl (lv_room (Nat.le_of_ble_eq_true rfl)) dX11_as_35 ⟨Nat.zero_le _, Nat.zero_le _⟩) hD hS hA (fun H locs hP hD hS => ?_)
                  refine lv_goto (tgt := 46) hx hb dX11_as_38 (by decide) ?_
                  obtain rfl := Option.some.inj hF
                  exact hend _ _ _ _ hP hD hS dX11_as_46
              · have hF := zif kk_31 hF
                exact znone hF
    · have hF := zit c_6 hF
      refine lv_ldc (own := RX11) (v := -1000001) hx hb hown (zh hts k1_13) dX11_as_22 ?_
      obtain rfl := Option.some.inj hF
      exact hend _ _ _ _ hP hD hS dX11_as_24
def fX11_go (N : Nat) (KL : List Nat) (kc : Nat → zKC) (L : zLS) (x1 : Int32) (x2 : Int32) : Option (Int32 × zLS) :=
  (fX4_isTold N L).bind fun u_2 =>
  if u_2 = 0 then
    some ((-1000002 : Int32), L)
  else
    (fX11_within N x1 (1 : Int32) (60 : Int32)).bind fun u_4 =>
    if u_4 = 0 then
      some ((-1000001 : Int32), L)
    else
      (fX11_within N x2 (1 : Int32) (999999 : Int32)).bind fun u_6 =>
      if u_6 = 0 then
        some ((-1000001 : Int32), L)
      else
        (fX4_passYears N KL kc L x1 x2).bind fun u_9 =>
        some (u_9.1.1 8, u_9)
set_option maxHeartbeats 4000000 in
set_option maxRecDepth 100000 in
theorem qX11_go (l : Launch) (D : va_G) (E : zE) (KL : List Nat) (kc : Nat → zKC) (on : zNS) (rw rd ft tr : zOS) (la : Nat → zLS) (mo : zMS) (hj : on.2.1 < 5) (L : zLS) (N sz : Nat) (x1 : Int32) (x2 : Int32) (out : Int32 × zLS) (hF : fX11_go N KL kc L x1 x2 = some out) : zCi l yX11_go zwX11_go ({ frames := 6, cells := 0, slots := 0, locals := 138 }) [.ref (E.1 0), .int x1, .int x2] D E sz (zW E KL kc on rw rd ft tr (va_up la on.2.1 L) mo) (zW E KL kc on rw rd ft tr (va_up la on.2.1 out.2) mo) out.1 0 0 := by
  refine zent_i (cc := cX11_go) (nL := 3) (by decide) rfl (Nat.le_of_ble_eq_true rfl) ?_
  intro p e s m args below meth c Q A hx hb hml hown hts hA hK hP hD hS hE ls hl hend
  have hown : s.vm.findClass RX11 = some m.cls := hown
  have hl : lv_has ls 3 [(0, .ref (E.1 0)), (1, .int x1), (2, .int x2)] := hl
  rw [fX11_go] at hF
  refine lv_aload_n hx hb dX11_go_0 rfl (lv_at hl 0 rfl) ?_
  refine va_get (D := D) (ci := 10) (v := .ref (E.1 (13 + 11 * on.2.1))) (C := RX11) (T := TX11) (N := 9) hx hb hts (zi iX11) hown hK hP 0 (zg_on _ _ _ _ _ _ _ _ _ _) rfl 6 (by decide) (zh hts k0_221) (fun _ h9 => h9) rfl dX11_go_1 ?_
  have hrv_1 := (va_recv hK hP (ci := 3) (q0 := 13 + 11 * on.2.1) rfl (zg_L _ _ _ _ _ _ _ _ _ _ hj _))
  obtain ⟨u_2, hu_2, hF⟩ := zbd hF
  refine zcall_i (va_runV (As := []) (rest := []) ⟨hx, hb, hml, hown, hts⟩ (qX4_isTold l D E KL kc on rw rd ft tr la mo on.2.1 hj L N _ _ hu_2) (cwV 0 hts (zgV k2_100 k2_101 k2_102 k0_6 k2_103) rfl rfl rfl (by decide +kernel) ⟨Nat.le_of_ble_eq_true rfl, Nat.le_of_ble_eq_true rfl⟩) (zpv hE hS hA hK hP hD hrv_1) rfl rfl hl.1 rfl (lv_room (Nat.le_of_ble_eq_true rfl)) dX11_go_4 ⟨Nat.zero_le _, Nat.zero_le _⟩) hD hS hA (fun H locs hP hD hS => ?_)
  refine lv_if_ne (tgt := 13) hx hb dX11_go_7 (by decide) (fun c_3 => ?_) (fun c_3 => ?_)
  · have hF := zif c_3 hF
    refine lv_iload_n hx hb dX11_go_13 rfl (lv_at hl 1 rfl) ?_
    refine lv_iconst (v := 1) hx hb dX11_go_14 (by decide) ?_
    refine lv_bipush (v := 60) hx hb dX11_go_15 (by decide) ?_
    obtain ⟨u_4, hu_4, hF⟩ := zbd hF
    refine zcall_i (va_runS (As := [.int x1, .int (1 : Int32), .int (60 : Int32)]) (rest := []) ⟨hx, hb, hml, hown, hts⟩ (qX11_within l D E KL kc on rw rd ft tr (va_up la on.2.1 L) mo N _ x1 (1 : Int32) (60 : Int32) _ hu_4) (va_cwS 3 hts (zgS k1_10 k1_11 k0_1 k1_12) rfl rfl rfl (by decide +kernel) ⟨Nat.le_of_ble_eq_true rfl, Nat.le_of_ble_eq_true rfl⟩) (zps hE hS hA hK hP hD) rfl rfl hl.1 rfl (lv_room (Nat.le_of_ble_eq_true rfl)) dX11_go_17 ⟨Nat.zero_le _, Nat.zero_le _⟩) hD hS hA (fun H locs hP hD hS => ?_)
    refine lv_if_eq (tgt := 33) hx hb dX11_go_20 (by decide) (fun c_5 => ?_) (fun c_5 => ?_)
    · have hF := zit c_5 hF
      refine lv_ldc (own := RX11) (v := -1000001) hx hb hown (zh hts k1_13) dX11_go_33 ?_
      obtain rfl := Option.some.inj hF
      exact hend _ _ _ _ hP hD hS dX11_go_35
    · have hF := zif c_5 hF
      refine lv_iload_n hx hb dX11_go_23 rfl (lv_at hl 2 rfl) ?_
      refine lv_iconst (v := 1) hx hb dX11_go_24 (by decide) ?_
      refine lv_ldc (own := RX11) (v := 999999) hx hb hown (zh hts k2_120) dX11_go_25 ?_
      obtain ⟨u_6, hu_6, hF⟩ := zbd hF
      refine zcall_i (va_runS (As := [.int x2, .int (1 : Int32), .int (999999 : Int32)]) (rest := []) ⟨hx, hb, hml, hown, hts⟩ (qX11_within l D E KL kc on rw rd ft tr (va_up la on.2.1 L) mo N _ x2 (1 : Int32) (999999 : Int32) _ hu_6) (va_cwS 3 hts (zgS k1_10 k1_11 k0_1 k1_12) rfl rfl rfl (by decide +kernel) ⟨Nat.le_of_ble_eq_true rfl, Nat.le_of_ble_eq_true rfl⟩) (zps hE hS hA hK hP hD) rfl rfl hl.1 rfl (lv_room (Nat.le_of_ble_eq_true rfl)) dX11_go_27 ⟨Nat.zero_le _, Nat.zero_le _⟩) hD hS hA (fun H locs hP hD hS => ?_)
      refine lv_if_ne (tgt := 36) hx hb dX11_go_30 (by decide) (fun c_7 => ?_) (fun c_7 => ?_)
      · have hF := zif c_7 hF
        refine lv_aload_n hx hb dX11_go_36 rfl (lv_at hl 0 rfl) ?_
        refine va_get (D := D) (ci := 10) (v := .ref (E.1 (13 + 11 * on.2.1))) (C := RX11) (T := TX11) (N := 9) hx hb hts (zi iX11) hown hK hP 0 (zg_on _ _ _ _ _ _ _ _ _ _) rfl 6 (by decide) (zh hts k0_221) (fun _ h9 => h9) rfl dX11_go_37 ?_
        refine lv_iload_n hx hb dX11_go_40 rfl (lv_at hl 1 rfl) ?_
        refine lv_iload_n hx hb dX11_go_41 rfl (lv_at hl 2 rfl) ?_
        have hrv_8 := (va_recv hK hP (ci := 3) (q0 := 13 + 11 * on.2.1) rfl (zg_L _ _ _ _ _ _ _ _ _ _ hj _))
        obtain ⟨u_9, hu_9, hF⟩ := zbd hF
        refine zcall_v (va_runV (As := [.int x1, .int x2]) (rest := []) ⟨hx, hb, hml, hown, hts⟩ (qX4_passYears l D E KL kc on rw rd ft tr la mo on.2.1 hj L N _ x1 x2 _ hu_9) (cwV 2 hts (zgV k2_121 k2_122 k2_123 k0_6 k2_124) rfl rfl rfl (by decide +kernel) ⟨Nat.le_of_ble_eq_true rfl, Nat.le_of_ble_eq_true rfl⟩) (zpv hE hS hA hK hP hD hrv_8) rfl rfl hl.1 rfl (lv_room (Nat.le_of_ble_eq_true rfl)) dX11_go_42 ⟨Nat.zero_le _, Nat.zero_le _⟩) hD hS hA (fun H locs hP hD hS => ?_)
        refine lv_aload_n hx hb dX11_go_45 rfl (lv_at hl 0 rfl) ?_
        refine va_get (D := D) (ci := 10) (v := .ref (E.1 (13 + 11 * on.2.1))) (C := RX11) (T := TX11) (N := 9) hx hb hts (zi iX11) hown hK hP 0 (zg_on _ _ _ _ _ _ _ _ _ _) rfl 6 (by decide) (zh hts k0_221) (fun _ h9 => h9) rfl dX11_go_46 ?_
        refine va_get (D := D) (ci := 3) (v := .int (u_9.1.1 8)) (C := RX4) (T := TX4) (N := 19) hx hb hts (zi iX4) hown hK hP (13 + 11 * on.2.1) (zg_L _ _ _ _ _ _ _ _ _ _ hj _) rfl 8 (by decide) (zh hts k0_126) (fun _ h9 => h9) rfl dX11_go_49 ?_
        obtain rfl := Option.some.inj hF
        exact hend _ _ _ _ hP hD hS dX11_go_52
      · have hF := zit c_7 hF
        refine lv_ldc (own := RX11) (v := -1000001) hx hb hown (zh hts k1_13) dX11_go_33 ?_
        obtain rfl := Option.some.inj hF
        exact hend _ _ _ _ hP hD hS dX11_go_35
  · have hF := zit c_3 hF
    refine lv_ldc (own := RX11) (v := -1000002) hx hb hown (zh hts k2_104) dX11_go_10 ?_
    obtain rfl := Option.some.inj hF
    exact hend _ _ _ _ hP hD hS dX11_go_12
def fX11_ask (N : Nat) (KL : List Nat) (kc : Nat → zKC) (tr : zOS) (L : zLS) (x1 : Int32) (x2 : Int32) : Option (Int32 × zOS) :=
  (fX4_keeperAt N KL kc L x1).bind fun u_2 =>
  match u_2 with
  | none =>
    some ((-1000001 : Int32), tr)
  | some a_3 =>
    if ¬ zkd KL kc a_3 then none else
    (fX11_within N x2 (0 : Int32) (1 : Int32)).bind fun u_5 =>
    if u_5 = 0 then
      some ((-1000001 : Int32), tr)
    else
      (fX9_clear N tr).bind fun u_7 =>
      if x2 = 0 then
        if (kc a_3).1 = 0 then
          (fX0_sizeAsked N kc u_7 L a_3).bind fun u_25 =>
          some (u_25.1, u_25.2)
        else if (kc a_3).1 = 1 then
          (fX1_sizeAsked N kc u_7 L a_3).bind fun u_28 =>
          some (u_28.1, u_28.2)
        else if (kc a_3).1 = 4 then
          (fX3_sizeAsked N kc u_7 L a_3).bind fun u_31 =>
          some (u_31.1, u_31.2)
        else if (kc a_3).1 = 7 then
          (fX8_sizeAsked N kc u_7 L a_3).bind fun u_34 =>
          some (u_34.1, u_34.2)
        else if (kc a_3).1 = 9 then
          (fX10_sizeAsked N kc u_7 L a_3).bind fun u_37 =>
          some (u_37.1, u_37.2)
        else none
      else
        if (kc a_3).1 = 0 then
          (fX0_markAsked N kc u_7 a_3).bind fun u_10 =>
          some (u_10.1, u_10.2)
        else if (kc a_3).1 = 1 then
          (fX1_markAsked N kc u_7 a_3).bind fun u_13 =>
          some (u_13.1, u_13.2)
        else if (kc a_3).1 = 4 then
          (fX5_markAsked N kc u_7 L a_3).bind fun u_16 =>
          some (u_16.1, u_16.2)
        else if (kc a_3).1 = 7 then
          (fX8_markAsked N kc u_7 L a_3).bind fun u_19 =>
          some (u_19.1, u_19.2)
        else if (kc a_3).1 = 9 then
          (fX0_markAsked N kc u_7 a_3).bind fun u_22 =>
          some (u_22.1, u_22.2)
        else none
set_option maxHeartbeats 4000000 in
set_option maxRecDepth 100000 in
theorem qX11_ask (l : Launch) (D : va_G) (E : zE) (KL : List Nat) (kc : Nat → zKC) (on : zNS) (rw rd ft tr : zOS) (la : Nat → zLS) (mo : zMS) (hj : on.2.1 < 5) (L : zLS) (N sz : Nat) (x1 : Int32) (x2 : Int32) (out : Int32 × zOS) (hF : fX11_ask N KL kc tr L x1 x2 = some out) : zCi l yX11_ask zwX11_ask ({ frames := 6, cells := 0, slots := 0, locals := 131 }) [.ref (E.1 0), .int x1, .int x2] D E sz (zW E KL kc on rw rd ft tr (va_up la on.2.1 L) mo) (zW E KL kc on rw rd ft out.2 (va_up la on.2.1 L) mo) out.1 0 0 := by
  refine zent_i (cc := cX11_ask) (nL := 4) (by decide) rfl (Nat.le_of_ble_eq_true rfl) ?_
  intro p e s m args below meth c Q A hx hb hml hown hts hA hK hP hD hS hE ls hl hend
  have hown : s.vm.findClass RX11 = some m.cls := hown
  have hl : lv_has ls 4 [(0, .ref (E.1 0)), (1, .int x1), (2, .int x2)] := hl
  rw [fX11_ask] at hF
  refine lv_aload_n hx hb dX11_ask_0 rfl (lv_at hl 0 rfl) ?_
  refine va_get (D := D) (ci := 10) (v := .ref (E.1 (13 + 11 * on.2.1))) (C := RX11) (T := TX11) (N := 9) hx hb hts (zi iX11) hown hK hP 0 (zg_on _ _ _ _ _ _ _ _ _ _) rfl 6 (by decide) (zh hts k0_221) (fun _ h9 => h9) rfl dX11_ask_1 ?_
  refine lv_iload_n hx hb dX11_ask_4 rfl (lv_at hl 1 rfl) ?_
  have hrv_1 := (va_recv hK hP (ci := 3) (q0 := 13 + 11 * on.2.1) rfl (zg_L _ _ _ _ _ _ _ _ _ _ hj _))
  obtain ⟨u_2, hu_2, hF⟩ := zbd hF
  refine zcall_q (va_runV (As := [.int x1]) (rest := []) ⟨hx, hb, hml, hown, hts⟩ (qX4_keeperAt l D E KL kc on rw rd ft tr la mo on.2.1 hj L N _ x1 _ hu_2) (cwV 1 hts (zgV k3_178 k2_84 k2_85 k0_6 k2_86) rfl rfl rfl (by decide +kernel) ⟨Nat.le_of_ble_eq_true rfl, Nat.le_of_ble_eq_true rfl⟩) (zpv hE hS hA hK hP hD hrv_1) rfl rfl hl.1 rfl (lv_room (Nat.le_of_ble_eq_true rfl)) dX11_ask_5 ⟨Nat.zero_le _, Nat.zero_le _⟩) hD hS hA (fun H locs hP hD hS => ?_)
  cases u_2 with
  | none =>
    refine lv_astore_nN (lv' := [(3, .null), (0, .ref (E.1 0)), (1, .int x1), (2, .int x2)]) hx hb dX11_ask_8 rfl hl (by decide) rfl (fun ls hl => ?_)
    refine lv_aload_nN hx hb dX11_ask_9 rfl (lv_at hl 0 rfl) ?_
    refine lv_ifnullN (tgt := 22) hx hb dX11_ask_10 (by decide) ?_
    refine lv_ldc (own := RX11) (v := -1000001) hx hb hown (zh hts k1_13) dX11_ask_22 ?_
    obtain rfl := Option.some.inj hF
    exact hend _ _ _ _ hP hD hS dX11_ask_24
  | some a_3 =>
    obtain ⟨k_4, hF⟩ := zgd hF
    have k_4 := Decidable.not_not.mp k_4
    have km_3 := k_4.1
    have k_4 := k_4.2
    refine lv_astore_n (lv' := [(3, .ref a_3), (0, .ref (E.1 0)), (1, .int x1), (2, .int x2)]) hx hb dX11_ask_8 rfl hl (by decide) rfl (fun ls hl => ?_)
    refine lv_aload_n hx hb dX11_ask_9 rfl (lv_at hl 0 rfl) ?_
    refine lv_ifnull hx hb dX11_ask_10 ?_
    refine lv_iload_n hx hb dX11_ask_13 rfl (lv_at hl 3 rfl) ?_
    refine lv_iconst (v := 0) hx hb dX11_ask_14 (by decide) ?_
    refine lv_iconst (v := 1) hx hb dX11_ask_15 (by decide) ?_
    obtain ⟨u_5, hu_5, hF⟩ := zbd hF
    refine zcall_i (va_runS (As := [.int x2, .int (0 : Int32), .int (1 : Int32)]) (rest := []) ⟨hx, hb, hml, hown, hts⟩ (qX11_within l D E KL kc on rw rd ft tr (va_up la on.2.1 L) mo N _ x2 (0 : Int32) (1 : Int32) _ hu_5) (va_cwS 3 hts (zgS k1_10 k1_11 k0_1 k1_12) rfl rfl rfl (by decide +kernel) ⟨Nat.le_of_ble_eq_true rfl, Nat.le_of_ble_eq_true rfl⟩) (zps hE hS hA hK hP hD) rfl rfl hl.1 rfl (lv_room (Nat.le_of_ble_eq_true rfl)) dX11_ask_16 ⟨Nat.zero_le _, Nat.zero_le _⟩) hD hS hA (fun H locs hP hD hS => ?_)
    refine lv_if_ne (tgt := 25) hx hb dX11_ask_19 (by decide) (fun c_6 => ?_) (fun c_6 => ?_)
    · have hF := zif c_6 hF
      refine lv_aload_n hx hb dX11_ask_25 rfl (lv_at hl 1 rfl) ?_
      refine va_get (D := D) (ci := 10) (v := .ref (E.1 11)) (C := RX11) (T := TX11) (N := 9) hx hb hts (zi iX11) hown hK hP 0 (zg_on _ _ _ _ _ _ _ _ _ _) rfl 3 (by decide) (zh hts k0_218) (fun _ h9 => h9) rfl dX11_ask_26 ?_
      obtain ⟨u_7, hu_7, hF⟩ := zbd hF
      refine zcall_v (va_runV (As := []) (rest := []) ⟨hx, hb, hml, hown, hts⟩ (qX9_clear l D E KL kc on rw rd ft tr (va_up la on.2.1 L) mo N _ _ hu_7) (cwV 0 hts (zgV k3_218 k3_219 k3_220 k0_7 k3_221) rfl rfl rfl (by decide +kernel) ⟨Nat.le_of_ble_eq_true rfl, Nat.le_of_ble_eq_true rfl⟩) (zpv hE hS hA hK hP hD (va_recv hK hP (ci := 8) (q0 := 11) rfl (zg_tr _ _ _ _ _ _ _ _ _ _))) rfl rfl hl.1 rfl (lv_room (Nat.le_of_ble_eq_true rfl)) dX11_ask_29 ⟨Nat.zero_le _, Nat.zero_le _⟩) hD hS hA (fun H locs hP hD hS => ?_)
      refine lv_iload_n hx hb dX11_ask_32 rfl (lv_at hl 3 rfl) ?_
      refine lv_if_ne (tgt := 51) hx hb dX11_ask_33 (by decide) (fun c_8 => ?_) (fun c_8 => ?_)
      · have hF := zif c_8 hF
        refine lv_aload_n hx hb dX11_ask_51 rfl (lv_at hl 0 rfl) ?_
        refine lv_aload_n hx hb dX11_ask_52 rfl (lv_at hl 1 rfl) ?_
        refine va_get (D := D) (ci := 10) (v := .ref (E.1 (13 + 11 * on.2.1))) (C := RX11) (T := TX11) (N := 9) hx hb hts (zi iX11) hown hK hP 0 (zg_on _ _ _ _ _ _ _ _ _ _) rfl 6 (by decide) (zh hts k0_221) (fun _ h9 => h9) rfl dX11_ask_53 ?_
        refine lv_aload_n hx hb dX11_ask_56 rfl (lv_at hl 1 rfl) ?_
        refine va_get (D := D) (ci := 10) (v := .ref (E.1 11)) (C := RX11) (T := TX11) (N := 9) hx hb hts (zi iX11) hown hK hP 0 (zg_on _ _ _ _ _ _ _ _ _ _) rfl 3 (by decide) (zh hts k0_218) (fun _ h9 => h9) rfl dX11_ask_57 ?_
        by_cases kk_9 : (kc a_3).1 = 0
        · have hF := zit kk_9 hF
          obtain ⟨u_10, hu_10, hF⟩ := zbd hF
          obtain ⟨q_11, hq_11⟩ := zg_K E KL kc on rw rd ft u_7 (va_up la on.2.1 L) mo km_3 kk_9
          refine zcall_i (va_runU (As := [.ref (E.1 (13 + 11 * on.2.1)), .ref (E.1 11)]) (rest := []) ⟨hx, hb, hml, hown, hts⟩ (qX0_markAsked l D E KL kc on rw rd ft u_7 la mo on.2.1 hj L a_3 km_3 (by omega) N _ _ hu_10) (va_cwO 2 hts (zgO k4_26 k6_36 k4_5 k6_38 k3_234 k0_17 k4_3) rfl rfl rfl (b0 := cX3_markAsked) (m0 := 3) (r0 := some .int) (List.mem_cons_of_mem _ k4_6) (by decide +kernel) ⟨Nat.le_of_ble_eq_true rfl, Nat.le_of_ble_eq_true rfl⟩) (zpv hE hS hA hK hP hD (va_recv hK hP (ci := 0) (q0 := q_11) rfl hq_11)) rfl rfl hl.1 rfl (lv_room (Nat.le_of_ble_eq_true rfl)) dX11_ask_60 ⟨Nat.zero_le _, Nat.zero_le _⟩) hD hS hA (fun H locs hP hD hS => ?_)
          obtain rfl := Option.some.inj hF
          exact hend _ _ _ _ hP hD hS dX11_ask_63
        · have hF := zif kk_9 hF
          by_cases kk_12 : (kc a_3).1 = 1
          · have hF := zit kk_12 hF
            obtain ⟨u_13, hu_13, hF⟩ := zbd hF
            obtain ⟨q_14, hq_14⟩ := zg_K E KL kc on rw rd ft u_7 (va_up la on.2.1 L) mo km_3 kk_12
            refine zcall_i (va_runU (As := [.ref (E.1 (13 + 11 * on.2.1)), .ref (E.1 11)]) (rest := []) ⟨hx, hb, hml, hown, hts⟩ (qX1_markAsked l D E KL kc on rw rd ft u_7 la mo on.2.1 hj L a_3 km_3 (by omega) N _ _ hu_13) (va_cwO 2 hts (zgO k4_26 k6_36 k4_5 k6_39 k3_238 k0_19 k3_239) rfl rfl rfl (b0 := cX3_markAsked) (m0 := 3) (r0 := some .int) (List.mem_cons_of_mem _ k4_6) (by decide +kernel) ⟨Nat.le_of_ble_eq_true rfl, Nat.le_of_ble_eq_true rfl⟩) (zpv hE hS hA hK hP hD (va_recv hK hP (ci := 1) (q0 := q_14) rfl hq_14)) rfl rfl hl.1 rfl (lv_room (Nat.le_of_ble_eq_true rfl)) dX11_ask_60 ⟨Nat.zero_le _, Nat.zero_le _⟩) hD hS hA (fun H locs hP hD hS => ?_)
            obtain rfl := Option.some.inj hF
            exact hend _ _ _ _ hP hD hS dX11_ask_63
          · have hF := zif kk_12 hF
            by_cases kk_15 : (kc a_3).1 = 4
            · have hF := zit kk_15 hF
              obtain ⟨u_16, hu_16, hF⟩ := zbd hF
              obtain ⟨q_17, hq_17⟩ := zg_K E KL kc on rw rd ft u_7 (va_up la on.2.1 L) mo km_3 kk_15
              refine zcall_i (va_runU (As := [.ref (E.1 (13 + 11 * on.2.1)), .ref (E.1 11)]) (rest := []) ⟨hx, hb, hml, hown, hts⟩ (qX5_markAsked l D E KL kc on rw rd ft u_7 la mo on.2.1 hj L a_3 km_3 (by omega) N _ _ hu_16) (va_cwO 2 hts (zgO k4_26 k6_36 k4_5 k6_40 k4_27 k0_16 k4_28) rfl rfl rfl (b0 := cX3_markAsked) (m0 := 3) (r0 := some .int) (List.mem_cons_of_mem _ k4_6) (by decide +kernel) ⟨Nat.le_of_ble_eq_true rfl, Nat.le_of_ble_eq_true rfl⟩) (zpv hE hS hA hK hP hD (va_recv hK hP (ci := 4) (q0 := q_17) rfl hq_17)) rfl rfl hl.1 rfl (lv_room (Nat.le_of_ble_eq_true rfl)) dX11_ask_60 ⟨Nat.zero_le _, Nat.zero_le _⟩) hD hS hA (fun H locs hP hD hS => ?_)
              obtain rfl := Option.some.inj hF
              exact hend _ _ _ _ hP hD hS dX11_ask_63
            · have hF := zif kk_15 hF
              by_cases kk_18 : (kc a_3).1 = 7
              · have hF := zit kk_18 hF
                obtain ⟨u_19, hu_19, hF⟩ := zbd hF
                obtain ⟨q_20, hq_20⟩ := zg_K E KL kc on rw rd ft u_7 (va_up la on.2.1 L) mo km_3 kk_18
                refine zcall_i (va_runU (As := [.ref (E.1 (13 + 11 * on.2.1)), .ref (E.1 11)]) (rest := []) ⟨hx, hb, hml, hown, hts⟩ (qX8_markAsked l D E KL kc on rw rd ft u_7 la mo on.2.1 hj L a_3 km_3 (by omega) N _ _ hu_19) (va_cwO 2 hts (zgO k4_26 k6_36 k4_5 k6_41 k4_35 k0_20 k4_36) rfl rfl rfl (b0 := cX3_markAsked) (m0 := 3) (r0 := some .int) (List.mem_cons_of_mem _ k4_6) (by decide +kernel) ⟨Nat.le_of_ble_eq_true rfl, Nat.le_of_ble_eq_true rfl⟩) (zpv hE hS hA hK hP hD (va_recv hK hP (ci := 7) (q0 := q_20) rfl hq_20)) rfl rfl hl.1 rfl (lv_room (Nat.le_of_ble_eq_true rfl)) dX11_ask_60 ⟨Nat.zero_le _, Nat.zero_le _⟩) hD hS hA (fun H locs hP hD hS => ?_)
                obtain rfl := Option.some.inj hF
                exact hend _ _ _ _ hP hD hS dX11_ask_63
              · have hF := zif kk_18 hF
                by_cases kk_21 : (kc a_3).1 = 9
                · have hF := zit kk_21 hF
                  obtain ⟨u_22, hu_22, hF⟩ := zbd hF
                  obtain ⟨q_23, hq_23⟩ := zg_K E KL kc on rw rd ft u_7 (va_up la on.2.1 L) mo km_3 kk_21
                  refine zcall_i (va_runU (As := [.ref (E.1 (13 + 11 * on.2.1)), .ref (E.1 11)]) (rest := []) ⟨hx, hb, hml, hown, hts⟩ (qX0_markAsked l D E KL kc on rw rd ft u_7 la mo on.2.1 hj L a_3 km_3 (by omega) N _ _ hu_22) (va_cwO 2 hts (zgO k4_26 k6_36 k4_5 k6_43 k3_234 k0_17 k4_3) rfl rfl rfl (b0 := cX3_markAsked) (m0 := 3) (r0 := some .int) (List.mem_cons_of_mem _ k4_6) (by decide +kernel) ⟨Nat.le_of_ble_eq_true rfl, Nat.le_of_ble_eq_true rfl⟩) (zpv hE hS hA hK hP hD (va_recv hK hP (ci := 9) (q0 := q_23) rfl hq_23)) rfl rfl hl.1 rfl (lv_room (Nat.le_of_ble_eq_true rfl)) dX11_ask_60 ⟨Nat.zero_le _, Nat.zero_le _⟩) hD hS hA (fun H locs hP hD hS => ?_)
                  obtain rfl := Option.some.inj hF
                  exact hend _ _ _ _ hP hD hS dX11_ask_63
                · have hF := zif kk_21 hF
                  exact znone hF
      · have hF := zit c_8 hF
        refine lv_aload_n hx hb dX11_ask_36 rfl (lv_at hl 0 rfl) ?_
        refine lv_aload_n hx hb dX11_ask_37 rfl (lv_at hl 1 rfl) ?_
        refine va_get (D := D) (ci := 10) (v := .ref (E.1 (13 + 11 * on.2.1))) (C := RX11) (T := TX11) (N := 9) hx hb hts (zi iX11) hown hK hP 0 (zg_on _ _ _ _ _ _ _ _ _ _) rfl 6 (by decide) (zh hts k0_221) (fun _ h9 => h9) rfl dX11_ask_38 ?_
        refine lv_aload_n hx hb dX11_ask_41 rfl (lv_at hl 1 rfl) ?_
        refine va_get (D := D) (ci := 10) (v := .ref (E.1 11)) (C := RX11) (T := TX11) (N := 9) hx hb hts (zi iX11) hown hK hP 0 (zg_on _ _ _ _ _ _ _ _ _ _) rfl 3 (by decide) (zh hts k0_218) (fun _ h9 => h9) rfl dX11_ask_42 ?_
        by_cases kk_24 : (kc a_3).1 = 0
        · have hF := zit kk_24 hF
          obtain ⟨u_25, hu_25, hF⟩ := zbd hF
          obtain ⟨q_26, hq_26⟩ := zg_K E KL kc on rw rd ft u_7 (va_up la on.2.1 L) mo km_3 kk_24
          refine zcall_i (va_runU (As := [.ref (E.1 (13 + 11 * on.2.1)), .ref (E.1 11)]) (rest := []) ⟨hx, hb, hml, hown, hts⟩ (qX0_sizeAsked l D E KL kc on rw rd ft u_7 la mo on.2.1 hj L a_3 km_3 (by omega) N _ _ hu_25) (va_cwO 2 hts (zgO k3_222 k3_224 k3_223 k3_225 k3_226 k0_17 k3_227) rfl rfl rfl (b0 := cX3_sizeAsked) (m0 := 3) (r0 := some .int) (List.mem_cons_of_mem _ k4_24) (by decide +kernel) ⟨Nat.le_of_ble_eq_true rfl, Nat.le_of_ble_eq_true rfl⟩) (zpv hE hS hA hK hP hD (va_recv hK hP (ci := 0) (q0 := q_26) rfl hq_26)) rfl rfl hl.1 rfl (lv_room (Nat.le_of_ble_eq_true rfl)) dX11_ask_45 ⟨Nat.zero_le _, Nat.zero_le _⟩) hD hS hA (fun H locs hP hD hS => ?_)
          refine lv_goto (tgt := 63) hx hb dX11_ask_48 (by decide) ?_
          obtain rfl := Option.some.inj hF
          exact hend _ _ _ _ hP hD hS dX11_ask_63
        · have hF := zif kk_24 hF
          by_cases kk_27 : (kc a_3).1 = 1
          · have hF := zit kk_27 hF
            obtain ⟨u_28, hu_28, hF⟩ := zbd hF
            obtain ⟨q_29, hq_29⟩ := zg_K E KL kc on rw rd ft u_7 (va_up la on.2.1 L) mo km_3 kk_27
            refine zcall_i (va_runU (As := [.ref (E.1 (13 + 11 * on.2.1)), .ref (E.1 11)]) (rest := []) ⟨hx, hb, hml, hown, hts⟩ (qX1_sizeAsked l D E KL kc on rw rd ft u_7 la mo on.2.1 hj L a_3 km_3 (by omega) N _ _ hu_28) (va_cwO 2 hts (zgO k3_222 k3_224 k3_223 k4_8 k4_9 k0_19 k4_10) rfl rfl rfl (b0 := cX3_sizeAsked) (m0 := 3) (r0 := some .int) (List.mem_cons_of_mem _ k4_24) (by decide +kernel) ⟨Nat.le_of_ble_eq_true rfl, Nat.le_of_ble_eq_true rfl⟩) (zpv hE hS hA hK hP hD (va_recv hK hP (ci := 1) (q0 := q_29) rfl hq_29)) rfl rfl hl.1 rfl (lv_room (Nat.le_of_ble_eq_true rfl)) dX11_ask_45 ⟨Nat.zero_le _, Nat.zero_le _⟩) hD hS hA (fun H locs hP hD hS => ?_)
            refine lv_goto (tgt := 63) hx hb dX11_ask_48 (by decide) ?_
            obtain rfl := Option.some.inj hF
            exact hend _ _ _ _ hP hD hS dX11_ask_63
          · have hF := zif kk_27 hF
            by_cases kk_30 : (kc a_3).1 = 4
            · have hF := zit kk_30 hF
              obtain ⟨u_31, hu_31, hF⟩ := zbd hF
              obtain ⟨q_32, hq_32⟩ := zg_K E KL kc on rw rd ft u_7 (va_up la on.2.1 L) mo km_3 kk_30
              refine zcall_i (va_runU (As := [.ref (E.1 (13 + 11 * on.2.1)), .ref (E.1 11)]) (rest := []) ⟨hx, hb, hml, hown, hts⟩ (qX3_sizeAsked l D E KL kc on rw rd ft u_7 la mo on.2.1 hj L a_3 km_3 (by omega) N _ _ hu_31) (va_cwU 2 hts (zgU k3_222 k3_224 k4_13 k3_223 k0_15 k4_24) rfl rfl rfl rfl (by decide +kernel) ⟨Nat.le_of_ble_eq_true rfl, Nat.le_of_ble_eq_true rfl⟩) (zpv hE hS hA hK hP hD (va_recv hK hP (ci := 4) (q0 := q_32) rfl hq_32)) rfl rfl hl.1 rfl (lv_room (Nat.le_of_ble_eq_true rfl)) dX11_ask_45 ⟨Nat.zero_le _, Nat.zero_le _⟩) hD hS hA (fun H locs hP hD hS => ?_)
              refine lv_goto (tgt := 63) hx hb dX11_ask_48 (by decide) ?_
              obtain rfl := Option.some.inj hF
              exact hend _ _ _ _ hP hD hS dX11_ask_63
            · have hF := zif kk_30 hF
              by_cases kk_33 : (kc a_3).1 = 7
              · have hF := zit kk_33 hF
                obtain ⟨u_34, hu_34, hF⟩ := zbd hF
                obtain ⟨q_35, hq_35⟩ := zg_K E KL kc on rw rd ft u_7 (va_up la on.2.1 L) mo km_3 kk_33
                refine zcall_i (va_runU (As := [.ref (E.1 (13 + 11 * on.2.1)), .ref (E.1 11)]) (rest := []) ⟨hx, hb, hml, hown, hts⟩ (qX8_sizeAsked l D E KL kc on rw rd ft u_7 la mo on.2.1 hj L a_3 km_3 (by omega) N _ _ hu_34) (va_cwO 2 hts (zgO k3_222 k3_224 k3_223 k4_14 k4_15 k0_20 k4_16) rfl rfl rfl (b0 := cX3_sizeAsked) (m0 := 3) (r0 := some .int) (List.mem_cons_of_mem _ k4_24) (by decide +kernel) ⟨Nat.le_of_ble_eq_true rfl, Nat.le_of_ble_eq_true rfl⟩) (zpv hE hS hA hK hP hD (va_recv hK hP (ci := 7) (q0 := q_35) rfl hq_35)) rfl rfl hl.1 rfl (lv_room (Nat.le_of_ble_eq_true rfl)) dX11_ask_45 ⟨Nat.zero_le _, Nat.zero_le _⟩) hD hS hA (fun H locs hP hD hS => ?_)
                refine lv_goto (tgt := 63) hx hb dX11_ask_48 (by decide) ?_
                obtain rfl := Option.some.inj hF
                exact hend _ _ _ _ hP hD hS dX11_ask_63
              · have hF := zif kk_33 hF
                by_cases kk_36 : (kc a_3).1 = 9
                · have hF := zit kk_36 hF
                  obtain ⟨u_37, hu_37, hF⟩ := zbd hF
                  obtain ⟨q_38, hq_38⟩ := zg_K E KL kc on rw rd ft u_7 (va_up la on.2.1 L) mo km_3 kk_36
                  refine zcall_i (va_runU (As := [.ref (E.1 (13 + 11 * on.2.1)), .ref (E.1 11)]) (rest := []) ⟨hx, hb, hml, hown, hts⟩ (qX10_sizeAsked l D E KL kc on rw rd ft u_7 la mo on.2.1 hj L a_3 km_3 (by omega) N _ _ hu_37) (va_cwO 2 hts (zgO k3_222 k3_224 k3_223 k4_19 k4_20 k0_18 k4_21) rfl rfl rfl (b0 := cX3_sizeAsked) (m0 := 3) (r0 := some .int) (List.mem_cons_of_mem _ k4_24) (by decide +kernel) ⟨Nat.le_of_ble_eq_true rfl, Nat.le_of_ble_eq_true rfl⟩) (zpv hE hS hA hK hP hD (va_recv hK hP (ci := 9) (q0 := q_38) rfl hq_38)) rfl rfl hl.1 rfl (lv_room (Nat.le_of_ble_eq_true rfl)) dX11_ask_45 ⟨Nat.zero_le _, Nat.zero_le _⟩) hD hS hA (fun H locs hP hD hS => ?_)
                  refine lv_goto (tgt := 63) hx hb dX11_ask_48 (by decide) ?_
                  obtain rfl := Option.some.inj hF
                  exact hend _ _ _ _ hP hD hS dX11_ask_63
                · have hF := zif kk_36 hF
                  exact znone hF
    · have hF := zit c_6 hF
      refine lv_ldc (own := RX11) (v := -1000001) hx hb hown (zh hts k1_13) dX11_ask_22 ?_
      obtain rfl := Option.some.inj hF
      exact hend _ _ _ _ hP hD hS dX11_ask_24
def fX11_fit (N : Nat) (KL : List Nat) (kc : Nat → zKC) (on : zNS) (rw : zOS) (ft : zOS) (L : zLS) (T : zLS) (x1 : Int32) (x2 : Int32) : Option (Int32 × zNS × zOS × zLS) :=
  (fX4_isTold N L).bind fun u_2 =>
  if u_2 = 0 then
    some ((-1000002 : Int32), on, ft, T)
  else
    (fX7_isRow N x1).bind fun u_4 =>
    if u_4 = 0 then
      some ((-1000001 : Int32), on, ft, T)
    else
      if (-1 : Int32) ≤ x2 then
        (fX7_isMissing N rw x1).bind fun u_7 =>
        if u_7 = 0 then
          (fX7_isStretch N rw x1 (0 : Int32) (L.1.1 6)).bind fun u_9 =>
          if u_9 = 0 then
            (fX11_found N on (2 : Int32)).bind fun u_18 =>
            some (u_18.1, u_18.2, ft, T)
          else
            (fX2_takeYears N rw ft L x1).bind fun u_11 =>
            if u_11.1 = 0 then
              some ((-1000001 : Int32), on, u_11.2, T)
            else
              if x2 = (-1 : Int32) then
                (fX2_countFits N KL kc u_11.2 L T).bind fun u_16 =>
                (fX11_fine N on u_16.1).bind fun u_17 =>
                some (u_17.1, u_17.2, u_11.2, u_16.2)
              else
                (fX2_fitAt N KL kc u_11.2 L T x2).bind fun u_14 =>
                (fX11_fine N on u_14.1).bind fun u_15 =>
                some (u_15.1, u_15.2, u_11.2, u_14.2)
        else
          (fX11_found N on (1 : Int32)).bind fun u_19 =>
          some (u_19.1, u_19.2, ft, T)
      else
        some ((-1000001 : Int32), on, ft, T)
set_option maxHeartbeats 4000000 in
set_option maxRecDepth 100000 in
theorem qX11_fit (l : Launch) (D : va_G) (E : zE) (KL : List Nat) (kc : Nat → zKC) (on : zNS) (rw rd ft tr : zOS) (la : Nat → zLS) (mo : zMS) (hj : on.2.1 < 5) (L : zLS) (T : zLS) (hne : on.2.1 ≠ 4) (N sz : Nat) (x1 : Int32) (x2 : Int32) (out : Int32 × zNS × zOS × zLS) (hF : fX11_fit N KL kc on rw ft L T x1 x2 = some out) : zCi l yX11_fit zwX11_fit ({ frames := 7, cells := 0, slots := 0, locals := 160 }) [.ref (E.1 0), .int x1, .int x2] D E sz (zW E KL kc on rw rd ft tr (va_up (va_up la on.2.1 L) 4 T) mo) (zW E KL kc out.2.1 rw rd out.2.2.1 tr (va_up (va_up la on.2.1 L) 4 out.2.2.2) mo) out.1 0 0 := by
  refine zent_i (cc := cX11_fit) (nL := 3) (by decide) rfl (Nat.le_of_ble_eq_true rfl) ?_
  intro p e s m args below meth c Q A hx hb hml hown hts hA hK hP hD hS hE ls hl hend
  have hown : s.vm.findClass RX11 = some m.cls := hown
  have hl : lv_has ls 3 [(0, .ref (E.1 0)), (1, .int x1), (2, .int x2)] := hl
  rw [fX11_fit] at hF
  refine lv_aload_n hx hb dX11_fit_0 rfl (lv_at hl 0 rfl) ?_
  refine va_get (D := D) (ci := 10) (v := .ref (E.1 (13 + 11 * on.2.1))) (C := RX11) (T := TX11) (N := 9) hx hb hts (zi iX11) hown hK hP 0 (zg_on _ _ _ _ _ _ _ _ _ _) rfl 6 (by decide) (zh hts k0_221) (fun _ h9 => h9) rfl dX11_fit_1 ?_
  rw [zup_comm _ (hne)] at hP hD
  have hrv_1 := (va_recv hK hP (ci := 3) (q0 := 13 + 11 * on.2.1) rfl (zg_L _ _ _ _ _ _ _ _ _ _ hj _))
  obtain ⟨u_2, hu_2, hF⟩ := zbd hF
  refine zcall_i (va_runV (As := []) (rest := []) ⟨hx, hb, hml, hown, hts⟩ (qX4_isTold l D E KL kc on rw rd ft tr (va_up la 4 T) mo on.2.1 hj L N _ _ hu_2) (cwV 0 hts (zgV k2_100 k2_101 k2_102 k0_6 k2_103) rfl rfl rfl (by decide +kernel) ⟨Nat.le_of_ble_eq_true rfl, Nat.le_of_ble_eq_true rfl⟩) (zpv hE hS hA hK hP hD hrv_1) rfl rfl hl.1 rfl (lv_room (Nat.le_of_ble_eq_true rfl)) dX11_fit_4 ⟨Nat.zero_le _, Nat.zero_le _⟩) hD hS hA (fun H locs hP hD hS => ?_)
  refine lv_if_ne (tgt := 13) hx hb dX11_fit_7 (by decide) (fun c_3 => ?_) (fun c_3 => ?_)
  · have hF := zif c_3 hF
    refine lv_iload_n hx hb dX11_fit_13 rfl (lv_at hl 1 rfl) ?_
    obtain ⟨u_4, hu_4, hF⟩ := zbd hF
    refine zcall_i (va_runS (As := [.int x1]) (rest := []) ⟨hx, hb, hml, hown, hts⟩ (qX7_isRow l D E KL kc on rw rd ft tr (va_up (va_up la 4 T) on.2.1 L) mo N _ x1 _ hu_4) (va_cwS 1 hts (zgS k1_7 k1_8 k0_2 k1_9) rfl rfl rfl (by decide +kernel) ⟨Nat.le_of_ble_eq_true rfl, Nat.le_of_ble_eq_true rfl⟩) (zps hE hS hA hK hP hD) rfl rfl hl.1 rfl (lv_room (Nat.le_of_ble_eq_true rfl)) dX11_fit_14 ⟨Nat.zero_le _, Nat.zero_le _⟩) hD hS hA (fun H locs hP hD hS => ?_)
    refine lv_if_eq (tgt := 25) hx hb dX11_fit_17 (by decide) (fun c_5 => ?_) (fun c_5 => ?_)
    · have hF := zit c_5 hF
      refine lv_ldc (own := RX11) (v := -1000001) hx hb hown (zh hts k1_13) dX11_fit_25 ?_
      rw [zup_comm _ (hne.symm)] at hP hD
      obtain rfl := Option.some.inj hF
      exact hend _ _ _ _ hP hD hS dX11_fit_27
    · have hF := zif c_5 hF
      refine lv_iload_n hx hb dX11_fit_20 rfl (lv_at hl 2 rfl) ?_
      refine lv_iconst (v := -1) hx hb dX11_fit_21 (by decide) ?_
      refine lv_icmp_ge (tgt := 28) hx hb dX11_fit_22 (by decide) (fun c_6 => ?_) (fun c_6 => ?_)
      · have hF := zit c_6 hF
        refine lv_aload_n hx hb dX11_fit_28 rfl (lv_at hl 0 rfl) ?_
        refine va_get (D := D) (ci := 10) (v := .ref (E.1 1)) (C := RX11) (T := TX11) (N := 9) hx hb hts (zi iX11) hown hK hP 0 (zg_on _ _ _ _ _ _ _ _ _ _) rfl 0 (by decide) (zh hts k0_215) (fun _ h9 => h9) rfl dX11_fit_29 ?_
        refine lv_iload_n hx hb dX11_fit_32 rfl (lv_at hl 1 rfl) ?_
        obtain ⟨u_7, hu_7, hF⟩ := zbd hF
        refine zcall_i (va_runV (As := [.int x1]) (rest := []) ⟨hx, hb, hml, hown, hts⟩ (qX7_isMissing l D E KL kc on rw rd ft tr (va_up (va_up la 4 T) on.2.1 L) mo N _ x1 _ hu_7) (cwV 1 hts (zgV k1_38 k1_39 k1_40 k0_2 k1_41) rfl rfl rfl (by decide +kernel) ⟨Nat.le_of_ble_eq_true rfl, Nat.le_of_ble_eq_true rfl⟩) (zpv hE hS hA hK hP hD (va_recv hK hP (ci := 6) (q0 := 1) rfl (zg_rw _ _ _ _ _ _ _ _ _ _))) rfl rfl hl.1 rfl (lv_room (Nat.le_of_ble_eq_true rfl)) dX11_fit_33 ⟨Nat.zero_le _, Nat.zero_le _⟩) hD hS hA (fun H locs hP hD hS => ?_)
        refine lv_if_eq (tgt := 45) hx hb dX11_fit_36 (by decide) (fun c_8 => ?_) (fun c_8 => ?_)
        · have hF := zit c_8 hF
          refine lv_aload_n hx hb dX11_fit_45 rfl (lv_at hl 0 rfl) ?_
          refine va_get (D := D) (ci := 10) (v := .ref (E.1 1)) (C := RX11) (T := TX11) (N := 9) hx hb hts (zi iX11) hown hK hP 0 (zg_on _ _ _ _ _ _ _ _ _ _) rfl 0 (by decide) (zh hts k0_215) (fun _ h9 => h9) rfl dX11_fit_46 ?_
          refine lv_iload_n hx hb dX11_fit_49 rfl (lv_at hl 1 rfl) ?_
          refine lv_iconst (v := 0) hx hb dX11_fit_50 (by decide) ?_
          refine lv_aload_n hx hb dX11_fit_51 rfl (lv_at hl 0 rfl) ?_
          refine va_get (D := D) (ci := 10) (v := .ref (E.1 (13 + 11 * on.2.1))) (C := RX11) (T := TX11) (N := 9) hx hb hts (zi iX11) hown hK hP 0 (zg_on _ _ _ _ _ _ _ _ _ _) rfl 6 (by decide) (zh hts k0_221) (fun _ h9 => h9) rfl dX11_fit_52 ?_
          refine va_get (D := D) (ci := 3) (v := .int (L.1.1 6)) (C := RX4) (T := TX4) (N := 19) hx hb hts (zi iX4) hown hK hP (13 + 11 * on.2.1) (zg_L _ _ _ _ _ _ _ _ _ _ hj _) rfl 6 (by decide) (zh hts k0_118) (fun _ h9 => h9) rfl dX11_fit_55 ?_
          obtain ⟨u_9, hu_9, hF⟩ := zbd hF
          refine zcall_i (va_runV (As := [.int x1, .int (0 : Int32), .int (L.1.1 6)]) (rest := []) ⟨hx, hb, hml, hown, hts⟩ (qX7_isStretch l D E KL kc on rw rd ft tr (va_up (va_up la 4 T) on.2.1 L) mo N _ x1 (0 : Int32) (L.1.1 6) _ hu_9) (cwV 3 hts (zgV k1_62 k1_63 k1_64 k0_2 k1_65) rfl rfl rfl (by decide +kernel) ⟨Nat.le_of_ble_eq_true rfl, Nat.le_of_ble_eq_true rfl⟩) (zpv hE hS hA hK hP hD (va_recv hK hP (ci := 6) (q0 := 1) rfl (zg_rw _ _ _ _ _ _ _ _ _ _))) rfl rfl hl.1 rfl (lv_room (Nat.le_of_ble_eq_true rfl)) dX11_fit_58 ⟨Nat.zero_le _, Nat.zero_le _⟩) hD hS hA (fun H locs hP hD hS => ?_)
          refine lv_if_ne (tgt := 70) hx hb dX11_fit_61 (by decide) (fun c_10 => ?_) (fun c_10 => ?_)
          · have hF := zif c_10 hF
            refine lv_aload_n hx hb dX11_fit_70 rfl (lv_at hl 0 rfl) ?_
            refine va_get (D := D) (ci := 10) (v := .ref (E.1 7)) (C := RX11) (T := TX11) (N := 9) hx hb hts (zi iX11) hown hK hP 0 (zg_on _ _ _ _ _ _ _ _ _ _) rfl 2 (by decide) (zh hts k0_217) (fun _ h9 => h9) rfl dX11_fit_71 ?_
            refine lv_aload_n hx hb dX11_fit_74 rfl (lv_at hl 0 rfl) ?_
            refine va_get (D := D) (ci := 10) (v := .ref (E.1 (13 + 11 * on.2.1))) (C := RX11) (T := TX11) (N := 9) hx hb hts (zi iX11) hown hK hP 0 (zg_on _ _ _ _ _ _ _ _ _ _) rfl 6 (by decide) (zh hts k0_221) (fun _ h9 => h9) rfl dX11_fit_75 ?_
            refine lv_aload_n hx hb dX11_fit_78 rfl (lv_at hl 0 rfl) ?_
            refine va_get (D := D) (ci := 10) (v := .ref (E.1 1)) (C := RX11) (T := TX11) (N := 9) hx hb hts (zi iX11) hown hK hP 0 (zg_on _ _ _ _ _ _ _ _ _ _) rfl 0 (by decide) (zh hts k0_215) (fun _ h9 => h9) rfl dX11_fit_79 ?_
            refine lv_iload_n hx hb dX11_fit_82 rfl (lv_at hl 1 rfl) ?_
            obtain ⟨u_11, hu_11, hF⟩ := zbd hF
            refine zcall_i (va_runV (As := [.ref (E.1 (13 + 11 * on.2.1)), .ref (E.1 1), .int x1]) (rest := []) ⟨hx, hb, hml, hown, hts⟩ (qX2_takeYears l D E KL kc on rw rd ft tr (va_up la 4 T) mo on.2.1 hj L N _ x1 _ hu_11) (cwV 3 hts (zgV k3_110 k3_111 k3_112 k0_5 k3_113) rfl rfl rfl (by decide +kernel) ⟨Nat.le_of_ble_eq_true rfl, Nat.le_of_ble_eq_true rfl⟩) (zpv hE hS hA hK hP hD (va_recv hK hP (ci := 2) (q0 := 7) rfl (zg_ft _ _ _ _ _ _ _ _ _ _))) rfl rfl hl.1 rfl (lv_room (Nat.le_of_ble_eq_true rfl)) dX11_fit_83 ⟨Nat.zero_le _, Nat.zero_le _⟩) hD hS hA (fun H locs hP hD hS => ?_)
            refine lv_if_ne (tgt := 92) hx hb dX11_fit_86 (by decide) (fun c_12 => ?_) (fun c_12 => ?_)
            · have hF := zif c_12 hF
              refine lv_aload_n hx hb dX11_fit_92 rfl (lv_at hl 0 rfl) ?_
              refine lv_iload_n hx hb dX11_fit_93 rfl (lv_at hl 2 rfl) ?_
              refine lv_iconst (v := -1) hx hb dX11_fit_94 (by decide) ?_
              refine lv_icmp_ne (tgt := 112) hx hb dX11_fit_95 (by decide) (fun c_13 => ?_) (fun c_13 => ?_)
              · have hF := zif c_13 hF
                refine lv_aload_n hx hb dX11_fit_112 rfl (lv_at hl 0 rfl) ?_
                refine va_get (D := D) (ci := 10) (v := .ref (E.1 7)) (C := RX11) (T := TX11) (N := 9) hx hb hts (zi iX11) hown hK hP 0 (zg_on _ _ _ _ _ _ _ _ _ _) rfl 2 (by decide) (zh hts k0_217) (fun _ h9 => h9) rfl dX11_fit_113 ?_
                refine lv_aload_n hx hb dX11_fit_116 rfl (lv_at hl 0 rfl) ?_
                refine va_get (D := D) (ci := 10) (v := .ref (E.1 (13 + 11 * on.2.1))) (C := RX11) (T := TX11) (N := 9) hx hb hts (zi iX11) hown hK hP 0 (zg_on _ _ _ _ _ _ _ _ _ _) rfl 6 (by decide) (zh hts k0_221) (fun _ h9 => h9) rfl dX11_fit_117 ?_
                refine lv_iload_n hx hb dX11_fit_120 rfl (lv_at hl 2 rfl) ?_
                rw [zup_comm _ (hne.symm)] at hP hD
                obtain ⟨u_14, hu_14, hF⟩ := zbd hF
                refine zcall_i (va_runV (As := [.ref (E.1 (13 + 11 * on.2.1)), .int x2]) (rest := [.ref (E.1 0)]) ⟨hx, hb, hml, hown, hts⟩ (qX2_fitAt l D E KL kc on rw rd u_11.2 tr la mo on.2.1 hj L T (hne) N _ x2 _ hu_14) (cwV 2 hts (zgV k3_142 k3_143 k3_144 k0_5 k3_145) rfl rfl rfl (by decide +kernel) ⟨Nat.le_of_ble_eq_true rfl, Nat.le_of_ble_eq_true rfl⟩) (zpv hE hS hA hK hP hD (va_recv hK hP (ci := 2) (q0 := 7) rfl (zg_ft _ _ _ _ _ _ _ _ _ _))) rfl rfl hl.1 rfl (lv_room (Nat.le_of_ble_eq_true rfl)) dX11_fit_121 ⟨Nat.zero_le _, Nat.zero_le _⟩) hD hS hA (fun H locs hP hD hS => ?_)
                obtain ⟨u_15, hu_15, hF⟩ := zbd hF
                refine zcall_i (va_runV (As := [.int u_14.1]) (rest := []) ⟨hx, hb, hml, hown, hts⟩ (qX11_fine l D E KL kc on rw rd u_11.2 tr (va_up (va_up la on.2.1 L) 4 u_14.2) mo N _ u_14.1 _ hu_15) (cwV 1 hts (zgV k1_30 k1_32 kp0_1 k0_1 k1_33) rfl rfl rfl (by decide +kernel) ⟨Nat.le_of_ble_eq_true rfl, Nat.le_of_ble_eq_true rfl⟩) (zpv hE hS hA hK hP hD (va_recv hK hP (ci := 10) (q0 := 0) rfl (zg_on _ _ _ _ _ _ _ _ _ _))) rfl rfl hl.1 rfl (lv_room (Nat.le_of_ble_eq_true rfl)) dX11_fit_124 ⟨Nat.zero_le _, Nat.zero_le _⟩) hD hS hA (fun H locs hP hD hS => ?_)
                obtain rfl := Option.some.inj hF
                exact hend _ _ _ _ hP hD hS dX11_fit_127
              · have hF := zit c_13 hF
                refine lv_aload_n hx hb dX11_fit_98 rfl (lv_at hl 0 rfl) ?_
                refine va_get (D := D) (ci := 10) (v := .ref (E.1 7)) (C := RX11) (T := TX11) (N := 9) hx hb hts (zi iX11) hown hK hP 0 (zg_on _ _ _ _ _ _ _ _ _ _) rfl 2 (by decide) (zh hts k0_217) (fun _ h9 => h9) rfl dX11_fit_99 ?_
                refine lv_aload_n hx hb dX11_fit_102 rfl (lv_at hl 0 rfl) ?_
                refine va_get (D := D) (ci := 10) (v := .ref (E.1 (13 + 11 * on.2.1))) (C := RX11) (T := TX11) (N := 9) hx hb hts (zi iX11) hown hK hP 0 (zg_on _ _ _ _ _ _ _ _ _ _) rfl 6 (by decide) (zh hts k0_221) (fun _ h9 => h9) rfl dX11_fit_103 ?_
                rw [zup_comm _ (hne.symm)] at hP hD
                obtain ⟨u_16, hu_16, hF⟩ := zbd hF
                refine zcall_i (va_runV (As := [.ref (E.1 (13 + 11 * on.2.1))]) (rest := [.ref (E.1 0)]) ⟨hx, hb, hml, hown, hts⟩ (qX2_countFits l D E KL kc on rw rd u_11.2 tr la mo on.2.1 hj L T (hne) N _ _ hu_16) (cwV 1 hts (zgV k3_118 k3_119 k3_120 k0_5 k3_121) rfl rfl rfl (by decide +kernel) ⟨Nat.le_of_ble_eq_true rfl, Nat.le_of_ble_eq_true rfl⟩) (zpv hE hS hA hK hP hD (va_recv hK hP (ci := 2) (q0 := 7) rfl (zg_ft _ _ _ _ _ _ _ _ _ _))) rfl rfl hl.1 rfl (lv_room (Nat.le_of_ble_eq_true rfl)) dX11_fit_106 ⟨Nat.zero_le _, Nat.zero_le _⟩) hD hS hA (fun H locs hP hD hS => ?_)
                refine lv_goto (tgt := 124) hx hb dX11_fit_109 (by decide) ?_
                obtain ⟨u_17, hu_17, hF⟩ := zbd hF
                refine zcall_i (va_runV (As := [.int u_16.1]) (rest := []) ⟨hx, hb, hml, hown, hts⟩ (qX11_fine l D E KL kc on rw rd u_11.2 tr (va_up (va_up la on.2.1 L) 4 u_16.2) mo N _ u_16.1 _ hu_17) (cwV 1 hts (zgV k1_30 k1_32 kp0_1 k0_1 k1_33) rfl rfl rfl (by decide +kernel) ⟨Nat.le_of_ble_eq_true rfl, Nat.le_of_ble_eq_true rfl⟩) (zpv hE hS hA hK hP hD (va_recv hK hP (ci := 10) (q0 := 0) rfl (zg_on _ _ _ _ _ _ _ _ _ _))) rfl rfl hl.1 rfl (lv_room (Nat.le_of_ble_eq_true rfl)) dX11_fit_124 ⟨Nat.zero_le _, Nat.zero_le _⟩) hD hS hA (fun H locs hP hD hS => ?_)
                obtain rfl := Option.some.inj hF
                exact hend _ _ _ _ hP hD hS dX11_fit_127
            · have hF := zit c_12 hF
              refine lv_ldc (own := RX11) (v := -1000001) hx hb hown (zh hts k1_13) dX11_fit_89 ?_
              rw [zup_comm _ (hne.symm)] at hP hD
              obtain rfl := Option.some.inj hF
              exact hend _ _ _ _ hP hD hS dX11_fit_91
          · have hF := zit c_10 hF
            refine lv_aload_n hx hb dX11_fit_64 rfl (lv_at hl 0 rfl) ?_
            refine lv_iconst (v := 2) hx hb dX11_fit_65 (by decide) ?_
            obtain ⟨u_18, hu_18, hF⟩ := zbd hF
            refine zcall_i (va_runV (As := [.int (2 : Int32)]) (rest := []) ⟨hx, hb, hml, hown, hts⟩ (qX11_found l D E KL kc on rw rd ft tr (va_up (va_up la 4 T) on.2.1 L) mo N _ (2 : Int32) _ hu_18) (cwV 1 hts (zgV k1_14 k1_16 kp0_0 k0_1 k1_17) rfl rfl rfl (by decide +kernel) ⟨Nat.le_of_ble_eq_true rfl, Nat.le_of_ble_eq_true rfl⟩) (zpv hE hS hA hK hP hD (va_recv hK hP (ci := 10) (q0 := 0) rfl (zg_on _ _ _ _ _ _ _ _ _ _))) rfl rfl hl.1 rfl (lv_room (Nat.le_of_ble_eq_true rfl)) dX11_fit_66 ⟨Nat.zero_le _, Nat.zero_le _⟩) hD hS hA (fun H locs hP hD hS => ?_)
            rw [zup_comm _ (hne.symm)] at hP hD
            obtain rfl := Option.some.inj hF
            exact hend _ _ _ _ hP hD hS dX11_fit_69
        · have hF := zif c_8 hF
          refine lv_aload_n hx hb dX11_fit_39 rfl (lv_at hl 0 rfl) ?_
          refine lv_iconst (v := 1) hx hb dX11_fit_40 (by decide) ?_
          obtain ⟨u_19, hu_19, hF⟩ := zbd hF
          refine zcall_i (va_runV (As := [.int (1 : Int32)]) (rest := []) ⟨hx, hb, hml, hown, hts⟩ (qX11_found l D E KL kc on rw rd ft tr (va_up (va_up la 4 T) on.2.1 L) mo N _ (1 : Int32) _ hu_19) (cwV 1 hts (zgV k1_14 k1_16 kp0_0 k0_1 k1_17) rfl rfl rfl (by decide +kernel) ⟨Nat.le_of_ble_eq_true rfl, Nat.le_of_ble_eq_true rfl⟩) (zpv hE hS hA hK hP hD (va_recv hK hP (ci := 10) (q0 := 0) rfl (zg_on _ _ _ _ _ _ _ _ _ _))) rfl rfl hl.1 rfl (lv_room (Nat.le_of_ble_eq_true rfl)) dX11_fit_41 ⟨Nat.zero_le _, Nat.zero_le _⟩) hD hS hA (fun H locs hP hD hS => ?_)
          rw [zup_comm _ (hne.symm)] at hP hD
          obtain rfl := Option.some.inj hF
          exact hend _ _ _ _ hP hD hS dX11_fit_44
      · have hF := zif c_6 hF
        refine lv_ldc (own := RX11) (v := -1000001) hx hb hown (zh hts k1_13) dX11_fit_25 ?_
        rw [zup_comm _ (hne.symm)] at hP hD
        obtain rfl := Option.some.inj hF
        exact hend _ _ _ _ hP hD hS dX11_fit_27
  · have hF := zit c_3 hF
    refine lv_ldc (own := RX11) (v := -1000002) hx hb hown (zh hts k2_104) dX11_fit_10 ?_
    rw [zup_comm _ (hne.symm)] at hP hD
    obtain rfl := Option.some.inj hF
    exact hend _ _ _ _ hP hD hS dX11_fit_12
def fX11_laws (N : Nat) (KL : List Nat) (kc : Nat → zKC) (L : zLS) (T : zLS) (x1 : Int32) : Option (Int32 × zLS) :=
  (fX4_isTold N L).bind fun u_2 =>
  if u_2 = 0 then
    some ((-1000002 : Int32), T)
  else
    (fX11_within N x1 (0 : Int32) (1 : Int32)).bind fun u_4 =>
    if u_4 = 0 then
      some ((-1000001 : Int32), T)
    else
      (fX2_earnedByLaw N KL kc L T x1).bind fun u_6 =>
      some (u_6.1, u_6.2)
set_option maxHeartbeats 4000000 in
set_option maxRecDepth 100000 in
theorem qX11_laws (l : Launch) (D : va_G) (E : zE) (KL : List Nat) (kc : Nat → zKC) (on : zNS) (rw rd ft tr : zOS) (la : Nat → zLS) (mo : zMS) (hj : on.2.1 < 5) (L : zLS) (T : zLS) (hne : on.2.1 ≠ 4) (N sz : Nat) (x1 : Int32) (out : Int32 × zLS) (hF : fX11_laws N KL kc L T x1 = some out) : zCi l yX11_laws zwX11_laws ({ frames := 7, cells := 0, slots := 0, locals := 160 }) [.ref (E.1 0), .int x1] D E sz (zW E KL kc on rw rd ft tr (va_up (va_up la on.2.1 L) 4 T) mo) (zW E KL kc on rw rd ft tr (va_up (va_up la on.2.1 L) 4 out.2) mo) out.1 0 0 := by
  refine zent_i (cc := cX11_laws) (nL := 2) (by decide) rfl (Nat.le_of_ble_eq_true rfl) ?_
  intro p e s m args below meth c Q A hx hb hml hown hts hA hK hP hD hS hE ls hl hend
  have hown : s.vm.findClass RX11 = some m.cls := hown
  have hl : lv_has ls 2 [(0, .ref (E.1 0)), (1, .int x1)] := hl
  rw [fX11_laws] at hF
  refine lv_aload_n hx hb dX11_laws_0 rfl (lv_at hl 0 rfl) ?_
  refine va_get (D := D) (ci := 10) (v := .ref (E.1 (13 + 11 * on.2.1))) (C := RX11) (T := TX11) (N := 9) hx hb hts (zi iX11) hown hK hP 0 (zg_on _ _ _ _ _ _ _ _ _ _) rfl 6 (by decide) (zh hts k0_221) (fun _ h9 => h9) rfl dX11_laws_1 ?_
  rw [zup_comm _ (hne)] at hP hD
  have hrv_1 := (va_recv hK hP (ci := 3) (q0 := 13 + 11 * on.2.1) rfl (zg_L _ _ _ _ _ _ _ _ _ _ hj _))
  obtain ⟨u_2, hu_2, hF⟩ := zbd hF
  refine zcall_i (va_runV (As := []) (rest := []) ⟨hx, hb, hml, hown, hts⟩ (qX4_isTold l D E KL kc on rw rd ft tr (va_up la 4 T) mo on.2.1 hj L N _ _ hu_2) (cwV 0 hts (zgV k2_100 k2_101 k2_102 k0_6 k2_103) rfl rfl rfl (by decide +kernel) ⟨Nat.le_of_ble_eq_true rfl, Nat.le_of_ble_eq_true rfl⟩) (zpv hE hS hA hK hP hD hrv_1) rfl rfl hl.1 rfl (lv_room (Nat.le_of_ble_eq_true rfl)) dX11_laws_4 ⟨Nat.zero_le _, Nat.zero_le _⟩) hD hS hA (fun H locs hP hD hS => ?_)
  refine lv_if_ne (tgt := 13) hx hb dX11_laws_7 (by decide) (fun c_3 => ?_) (fun c_3 => ?_)
  · have hF := zif c_3 hF
    refine lv_iload_n hx hb dX11_laws_13 rfl (lv_at hl 1 rfl) ?_
    refine lv_iconst (v := 0) hx hb dX11_laws_14 (by decide) ?_
    refine lv_iconst (v := 1) hx hb dX11_laws_15 (by decide) ?_
    obtain ⟨u_4, hu_4, hF⟩ := zbd hF
    refine zcall_i (va_runS (As := [.int x1, .int (0 : Int32), .int (1 : Int32)]) (rest := []) ⟨hx, hb, hml, hown, hts⟩ (qX11_within l D E KL kc on rw rd ft tr (va_up (va_up la 4 T) on.2.1 L) mo N _ x1 (0 : Int32) (1 : Int32) _ hu_4) (va_cwS 3 hts (zgS k1_10 k1_11 k0_1 k1_12) rfl rfl rfl (by decide +kernel) ⟨Nat.le_of_ble_eq_true rfl, Nat.le_of_ble_eq_true rfl⟩) (zps hE hS hA hK hP hD) rfl rfl hl.1 rfl (lv_room (Nat.le_of_ble_eq_true rfl)) dX11_laws_16 ⟨Nat.zero_le _, Nat.zero_le _⟩) hD hS hA (fun H locs hP hD hS => ?_)
    refine lv_if_eq (tgt := 37) hx hb dX11_laws_19 (by decide) (fun c_5 => ?_) (fun c_5 => ?_)
    · have hF := zit c_5 hF
      refine lv_ldc (own := RX11) (v := -1000001) hx hb hown (zh hts k1_13) dX11_laws_37 ?_
      rw [zup_comm _ (hne.symm)] at hP hD
      obtain rfl := Option.some.inj hF
      exact hend _ _ _ _ hP hD hS dX11_laws_39
    · have hF := zif c_5 hF
      refine lv_aload_n hx hb dX11_laws_22 rfl (lv_at hl 0 rfl) ?_
      refine va_get (D := D) (ci := 10) (v := .ref (E.1 7)) (C := RX11) (T := TX11) (N := 9) hx hb hts (zi iX11) hown hK hP 0 (zg_on _ _ _ _ _ _ _ _ _ _) rfl 2 (by decide) (zh hts k0_217) (fun _ h9 => h9) rfl dX11_laws_23 ?_
      refine lv_aload_n hx hb dX11_laws_26 rfl (lv_at hl 0 rfl) ?_
      refine va_get (D := D) (ci := 10) (v := .ref (E.1 (13 + 11 * on.2.1))) (C := RX11) (T := TX11) (N := 9) hx hb hts (zi iX11) hown hK hP 0 (zg_on _ _ _ _ _ _ _ _ _ _) rfl 6 (by decide) (zh hts k0_221) (fun _ h9 => h9) rfl dX11_laws_27 ?_
      refine lv_iload_n hx hb dX11_laws_30 rfl (lv_at hl 1 rfl) ?_
      rw [zup_comm _ (hne.symm)] at hP hD
      obtain ⟨u_6, hu_6, hF⟩ := zbd hF
      refine zcall_i (va_runV (As := [.ref (E.1 (13 + 11 * on.2.1)), .int x1]) (rest := []) ⟨hx, hb, hml, hown, hts⟩ (qX2_earnedByLaw l D E KL kc on rw rd ft tr la mo on.2.1 hj L T (hne) N _ x1 _ hu_6) (cwV 2 hts (zgV k3_150 k3_151 k3_152 k0_5 k3_153) rfl rfl rfl (by decide +kernel) ⟨Nat.le_of_ble_eq_true rfl, Nat.le_of_ble_eq_true rfl⟩) (zpv hE hS hA hK hP hD (va_recv hK hP (ci := 2) (q0 := 7) rfl (zg_ft _ _ _ _ _ _ _ _ _ _))) rfl rfl hl.1 rfl (lv_room (Nat.le_of_ble_eq_true rfl)) dX11_laws_31 ⟨Nat.zero_le _, Nat.zero_le _⟩) hD hS hA (fun H locs hP hD hS => ?_)
      refine lv_goto (tgt := 39) hx hb dX11_laws_34 (by decide) ?_
      obtain rfl := Option.some.inj hF
      exact hend _ _ _ _ hP hD hS dX11_laws_39
  · have hF := zit c_3 hF
    refine lv_ldc (own := RX11) (v := -1000002) hx hb hown (zh hts k2_104) dX11_laws_10 ?_
    rw [zup_comm _ (hne.symm)] at hP hD
    obtain rfl := Option.some.inj hF
    exact hend _ _ _ _ hP hD hS dX11_laws_12
