def fX6_readKeepers_l1 (N : Nat) : Nat → Int32 → List Nat → (Nat → zKC) → Nat → zOS → zLS → Option (List Nat × (Nat → zKC) × Nat × zOS × zLS)
  | 0, _, _, _, _, _, _ => none
  | n + 1, x2_1, KL_2, kc_3, hb_4, rd_5, L_6 =>
    if x2_1 = 0 then
      (fX6_takeWordOf N rd_5 5 x2_1 (6 : Int32)).bind fun u_8 =>
      (fX6_takeKind N u_8).bind fun u_9 =>
      (fX6_takeNumber N u_9.2 (0 : Int32) (60 : Int32)).bind fun u_10 =>
      (fX6_takeNumber N u_10.2 (1 : Int32) (9 : Int32)).bind fun u_11 =>
      (fX6_takeSign N u_11.2).bind fun u_12 =>
      (fX4_addKeeper N (KL_2 ++ [hb_4]) L_6 hb_4).bind fun u_16 =>
      fX6_readKeepers_l1 N n (x2_1 + (1 : Int32)) (KL_2 ++ [hb_4]) (va_up kc_3 hb_4 (zko u_9.1, x2_1, u_10.1, u_11.1)) (hb_4 + 1) u_12 u_16
    else
      if (6 : Int32) < x2_1 then
        some (KL_2, kc_3, hb_4, rd_5, L_6)
      else
        (fX6_isWord N rd_5 5).bind fun u_18 =>
        if u_18 = 0 then
          some (KL_2, kc_3, hb_4, rd_5, L_6)
        else
          (fX6_takeWordOf N rd_5 5 x2_1 (6 : Int32)).bind fun u_20 =>
          (fX6_takeKind N u_20).bind fun u_21 =>
          (fX6_takeNumber N u_21.2 (0 : Int32) (60 : Int32)).bind fun u_22 =>
          (fX6_takeNumber N u_22.2 (1 : Int32) (9 : Int32)).bind fun u_23 =>
          (fX6_takeSign N u_23.2).bind fun u_24 =>
          (fX4_addKeeper N (KL_2 ++ [hb_4]) L_6 hb_4).bind fun u_28 =>
          fX6_readKeepers_l1 N n (x2_1 + (1 : Int32)) (KL_2 ++ [hb_4]) (va_up kc_3 hb_4 (zko u_21.1, x2_1, u_22.1, u_23.1)) (hb_4 + 1) u_24 u_28
def fX6_readKeepers (N : Nat) (KL : List Nat) (kc : Nat → zKC) (hb : Nat) (rd : zOS) (L : zLS) : Option (List Nat × (Nat → zKC) × Nat × zOS × zLS) :=
  (fX6_readKeepers_l1 N 8 (0 : Int32) KL kc hb rd L).bind (fun u_35 =>
    some (u_35.1, u_35.2.1, u_35.2.2.1, u_35.2.2.2.1, u_35.2.2.2.2))
set_option maxHeartbeats 1000000 in
set_option maxRecDepth 100000 in
theorem qX6_readKeepers (l : Launch) (D : va_G) (E : zE) (KL : List Nat) (kc : Nat → zKC) (on : zNS) (rw rd ft tr : zOS) (la : Nat → zLS) (mo : zMS) (j : Nat) (hj : j < 5) (L : zLS) (N hb : Nat)  (out : List Nat × (Nat → zKC) × Nat × zOS × zLS) (hF : fX6_readKeepers N KL kc hb rd L = some out) : zCv l yX6_readKeepers zwX6_readKeepers ({ frames := 7, cells := 8, slots := 24, locals := 151 }) [.ref (E.1 5), .ref (E.1 (13 + 11 * j))] D E hb (zW E KL kc on rw rd ft tr (va_up la j L) mo) (zW E out.1 out.2.1 on rw out.2.2.2.1 ft tr (va_up la j out.2.2.2.2) mo) 8 24 := by
  refine zent_va (cc := cX6_readKeepers) (nL := 6) (by decide) rfl (Nat.le_of_ble_eq_true rfl) ?_
  intro p e s m args below meth c Q A hx hb0 hml hown hts hA hK hP hD hS hE hsz0 ls hl hend
  have hown : s.vm.findClass RX6 = some m.cls := hown
  have hl : lv_has ls 6 [(0, .ref (E.1 5)), (1, .ref (E.1 (13 + 11 * j)))] := hl
  rw [fX6_readKeepers] at hF
  refine lv_iconst (v := 0) hx hb0 dX6_readKeepers_0 (by decide) ?_
  refine lv_istore_n (lv' := [(2, .int (0 : Int32)), (0, .ref (E.1 5)), (1, .ref (E.1 (13 + 11 * j)))]) hx hb0 dX6_readKeepers_1 rfl hl (by decide) rfl (fun ls hl => ?_)
  obtain ⟨o_29, ho_29, hF⟩ := zbd hF
  have kx_1_0 : ∀ (KL_30 : List Nat) (kc_31 : Nat → zKC) (hb_32 : Nat) (rd_33 : zOS) (L_34 : zLS), (KL_30, kc_31, hb_32, rd_33, L_34) = o_29 → ∀ (H : Heap) (locs : List Loc) (ls : Array Slot), ∀ (kk : Nat), kk ≤ 8 → hb_32 = hb + kk → H.size = hb_32 → va_P D vwCl (zW E KL_30 kc_31 on rw rd_33 ft tr (va_up la j L_34) mo) H → va_D A (zW E KL_30 kc_31 on rw rd_33 ft tr (va_up la j L_34) mo) → va_S A s.heap H locs → lv_has ls 6 [] → W p l e ({ frames := 7, cells := 8, slots := 24, locals := 151 } : Room) s m args below meth c H locs kk (3 * kk) Q (F0 m 76 ls []) := by
    intro KL_30 kc_31 hb_32 rd_33 L_34 ho H locs ls kk hkk hhb hsz hP hD hS hl
    subst ho
    obtain rfl := Option.some.inj hF
    refine W.widen (k := 8) (n := 24) (show _ ≤ 8 by omega) (show _ ≤ 24 by omega) ?_
    exact hend _ _ _ _ hP hD hS dX6_readKeepers_76
  have lp_1 : ∀ (n : Nat) (x2_1 : Int32) (KL_2 : List Nat) (kc_3 : Nat → zKC) (hb_4 : Nat) (rd_5 : zOS) (L_6 : zLS) (o : (List Nat × (Nat → zKC) × Nat × zOS × zLS)), fX6_readKeepers_l1 N n x2_1 KL_2 kc_3 hb_4 rd_5 L_6 = some o → (∀ (KL_30 : List Nat) (kc_31 : Nat → zKC) (hb_32 : Nat) (rd_33 : zOS) (L_34 : zLS), (KL_30, kc_31, hb_32, rd_33, L_34) = o → ∀ (H : Heap) (locs : List Loc) (ls : Array Slot), ∀ (kk : Nat), kk ≤ 8 → hb_32 = hb + kk → H.size = hb_32 → va_P D vwCl (zW E KL_30 kc_31 on rw rd_33 ft tr (va_up la j L_34) mo) H → va_D A (zW E KL_30 kc_31 on rw rd_33 ft tr (va_up la j L_34) mo) → va_S A s.heap H locs → lv_has ls 6 [] → W p l e ({ frames := 7, cells := 8, slots := 24, locals := 151 } : Room) s m args below meth c H locs kk (3 * kk) Q (F0 m 76 ls [])) → ∀ (H : Heap) (locs : List Loc) (ls : Array Slot), ∀ (kk : Nat), kk + n ≤ 8 → hb_4 = hb + kk → H.size = hb_4 → va_P D vwCl (zW E KL_2 kc_3 on rw rd_5 ft tr (va_up la j L_6) mo) H → va_D A (zW E KL_2 kc_3 on rw rd_5 ft tr (va_up la j L_6) mo) → va_S A s.heap H locs → lv_has ls 6 [(0, .ref (E.1 5)), (1, .ref (E.1 (13 + 11 * j))), (2, .int x2_1)] → W p l e ({ frames := 7, cells := 8, slots := 24, locals := 151 } : Room) s m args below meth c H locs kk (3 * kk) Q (F0 m 2 ls []) := by
    intro n
    induction n with
    | zero =>
      intro x2_1 KL_2 kc_3 hb_4 rd_5 L_6 o hF
      exact znone hF
    | succ n ih =>
      intro x2_1 KL_2 kc_3 hb_4 rd_5 L_6 o hF kx_1_0 H locs ls kk hkk hhb hsz hP hD hS hl
      rw [fX6_readKeepers_l1] at hF
      refine lv_iload_n hx hb0 dX6_readKeepers_2 rfl (lv_at hl 2 rfl) ?_
      refine lv_if_eq (tgt := 21) hx hb0 dX6_readKeepers_3 (by decide) (fun c_7 => ?_) (fun c_7 => ?_)
      · have hF := zit c_7 hF
        refine lv_aload_n hx hb0 dX6_readKeepers_21 rfl (lv_at hl 0 rfl) ?_
        refine va_ldcS (own := RX6) (tx := zst.getD 5 "") (q := E.2.2.2.2.2.1 5) hx hb0 hown (hE.2.2.2.1 5 (by decide)) dX6_readKeepers_22 ?_
        refine lv_iload_n hx hb0 dX6_readKeepers_24 rfl (lv_at hl 2 rfl) ?_
        refine lv_bipush (v := 6) hx hb0 dX6_readKeepers_25 (by decide) ?_
        obtain ⟨u_8, hu_8, hF⟩ := zbd hF
        refine zcl_v (va_runV (As := [.ref (E.2.2.2.2.2.1 5), .int x2_1, .int (6 : Int32)]) (rest := []) ⟨hx, hb0, hml, hown, hts⟩ (qX6_takeWordOf l D E KL_2 kc_3 on rw rd_5 ft tr (va_up la j L_6) mo N _ 5 x2_1 (6 : Int32) _ hu_8) (cwV 3 hts (zgV k1_202 k1_204 kp0_12 k0_4 k1_205) rfl rfl rfl (by decide +kernel) ⟨Nat.le_of_ble_eq_true rfl, Nat.le_of_ble_eq_true rfl⟩) (zpv hE hS hA hK hP hD (va_recv hK hP (ci := 5) (q0 := 5) rfl (zg_rd _ _ _ _ _ _ _ _ _ _))) rfl rfl hl.1 rfl (lv_room (Nat.le_of_ble_eq_true rfl)) dX6_readKeepers_27 ⟨(show _ ≤ 8 by omega), (show _ ≤ 24 by omega)⟩) hD hS hA (fun H locs hz7 hP hD hS => ?_)
        refine zsz (fun hz9 => ?_)
        have hsz : H.size = hb_4 := by omega
        refine lv_aload_n hx hb0 dX6_readKeepers_30 rfl (lv_at hl 0 rfl) ?_
        obtain ⟨u_9, hu_9, hF⟩ := zbd hF
        refine zcl_i (va_runV (As := []) (rest := []) ⟨hx, hb0, hml, hown, hts⟩ (qX6_takeKind l D E KL_2 kc_3 on rw u_8 ft tr (va_up la j L_6) mo N _ _ hu_9) (cwV 0 hts (zgV k1_220 k1_222 kp0_15 k0_4 k1_223) rfl rfl rfl (by decide +kernel) ⟨Nat.le_of_ble_eq_true rfl, Nat.le_of_ble_eq_true rfl⟩) (zpv hE hS hA hK hP hD (va_recv hK hP (ci := 5) (q0 := 5) rfl (zg_rd _ _ _ _ _ _ _ _ _ _))) rfl rfl hl.1 rfl (lv_room (Nat.le_of_ble_eq_true rfl)) dX6_readKeepers_31 ⟨(show _ ≤ 8 by omega), (show _ ≤ 24 by omega)⟩) hD hS hA (fun H locs hz7 hP hD hS => ?_)
        refine zsz (fun hz9 => ?_)
        have hsz : H.size = hb_4 := by omega
        refine lv_istore_n (lv' := [(3, .int u_9.1), (0, .ref (E.1 5)), (1, .ref (E.1 (13 + 11 * j))), (2, .int x2_1)]) hx hb0 dX6_readKeepers_34 rfl hl (by decide) rfl (fun ls hl => ?_)
        refine lv_aload_n hx hb0 dX6_readKeepers_35 rfl (lv_at hl 1 rfl) ?_
        refine lv_iconst (v := 0) hx hb0 dX6_readKeepers_36 (by decide) ?_
        refine lv_bipush (v := 60) hx hb0 dX6_readKeepers_37 (by decide) ?_
        obtain ⟨u_10, hu_10, hF⟩ := zbd hF
        refine zcl_i (va_runV (As := [.int (0 : Int32), .int (60 : Int32)]) (rest := []) ⟨hx, hb0, hml, hown, hts⟩ (qX6_takeNumber l D E KL_2 kc_3 on rw u_9.2 ft tr (va_up la j L_6) mo N _ (0 : Int32) (60 : Int32) _ hu_10) (cwV 2 hts (zgV k1_188 k1_190 kp0_9 k0_4 k1_191) rfl rfl rfl (by decide +kernel) ⟨Nat.le_of_ble_eq_true rfl, Nat.le_of_ble_eq_true rfl⟩) (zpv hE hS hA hK hP hD (va_recv hK hP (ci := 5) (q0 := 5) rfl (zg_rd _ _ _ _ _ _ _ _ _ _))) rfl rfl hl.1 rfl (lv_room (Nat.le_of_ble_eq_true rfl)) dX6_readKeepers_39 ⟨(show _ ≤ 8 by omega), (show _ ≤ 24 by omega)⟩) hD hS hA (fun H locs hz7 hP hD hS => ?_)
        refine zsz (fun hz9 => ?_)
        have hsz : H.size = hb_4 := by omega
        refine lv_istore (lv' := [(4, .int u_10.1), (3, .int u_9.1), (0, .ref (E.1 5)), (1, .ref (E.1 (13 + 11 * j))), (2, .int x2_1)]) hx hb0 dX6_readKeepers_42 hl (by decide) rfl (fun ls hl => ?_)
        refine lv_aload_n hx hb0 dX6_readKeepers_44 rfl (lv_at hl 2 rfl) ?_
        refine lv_iconst (v := 1) hx hb0 dX6_readKeepers_45 (by decide) ?_
        refine lv_bipush (v := 9) hx hb0 dX6_readKeepers_46 (by decide) ?_
        obtain ⟨u_11, hu_11, hF⟩ := zbd hF
        refine zcl_i (va_runV (As := [.int (1 : Int32), .int (9 : Int32)]) (rest := []) ⟨hx, hb0, hml, hown, hts⟩ (qX6_takeNumber l D E KL_2 kc_3 on rw u_10.2 ft tr (va_up la j L_6) mo N _ (1 : Int32) (9 : Int32) _ hu_11) (cwV 2 hts (zgV k1_188 k1_190 kp0_9 k0_4 k1_191) rfl rfl rfl (by decide +kernel) ⟨Nat.le_of_ble_eq_true rfl, Nat.le_of_ble_eq_true rfl⟩) (zpv hE hS hA hK hP hD (va_recv hK hP (ci := 5) (q0 := 5) rfl (zg_rd _ _ _ _ _ _ _ _ _ _))) rfl rfl hl.1 rfl (lv_room (Nat.le_of_ble_eq_true rfl)) dX6_readKeepers_48 ⟨(show _ ≤ 8 by omega), (show _ ≤ 24 by omega)⟩) hD hS hA (fun H locs hz7 hP hD hS => ?_)
        refine zsz (fun hz9 => ?_)
        have hsz : H.size = hb_4 := by omega
        refine lv_istore (lv' := [(5, .int u_11.1), (4, .int u_10.1), (3, .int u_9.1), (0, .ref (E.1 5)), (1, .ref (E.1 (13 + 11 * j))), (2, .int x2_1)]) hx hb0 dX6_readKeepers_51 hl (by decide) rfl (fun ls hl => ?_)
        refine lv_aload_n hx hb0 dX6_readKeepers_53 rfl (lv_at hl 3 rfl) ?_
        obtain ⟨u_12, hu_12, hF⟩ := zbd hF
        refine zcl_v (va_runV (As := []) (rest := []) ⟨hx, hb0, hml, hown, hts⟩ (qX6_takeSign l D E KL_2 kc_3 on rw u_11.2 ft tr (va_up la j L_6) mo N _ _ hu_12) (cwV 0 hts (zgV k1_193 k1_195 kp0_10 k0_4 k1_196) rfl rfl rfl (by decide +kernel) ⟨Nat.le_of_ble_eq_true rfl, Nat.le_of_ble_eq_true rfl⟩) (zpv hE hS hA hK hP hD (va_recv hK hP (ci := 5) (q0 := 5) rfl (zg_rd _ _ _ _ _ _ _ _ _ _))) rfl rfl hl.1 rfl (lv_room (Nat.le_of_ble_eq_true rfl)) dX6_readKeepers_54 ⟨(show _ ≤ 8 by omega), (show _ ≤ 24 by omega)⟩) hD hS hA (fun H locs hz7 hP hD hS => ?_)
        refine zsz (fun hz9 => ?_)
        have hsz : H.size = hb_4 := by omega
        refine lv_aload_n hx hb0 dX6_readKeepers_57 rfl (lv_at hl 4 rfl) ?_
        refine lv_iload_n hx hb0 dX6_readKeepers_58 rfl (lv_at hl 2 rfl) ?_
        refine lv_iload_n hx hb0 dX6_readKeepers_59 rfl (lv_at hl 5 rfl) ?_
        refine lv_iload hx hb0 dX6_readKeepers_60 (lv_at hl 1 rfl) ?_
        refine lv_iload hx hb0 dX6_readKeepers_62 (lv_at hl 0 rfl) ?_
        refine zcall_k (w := zW E KL_2 kc_3 on rw u_12 ft tr (va_up la j L_6) mo) (w' := fun b9 : Nat => zW E (KL_2 ++ [b9]) (va_up kc_3 b9 (zko u_9.1, x2_1, u_10.1, u_11.1)) on rw u_12 ft tr (va_up la j L_6) mo) (va_runS (As := [.int u_9.1, .int x2_1, .int u_10.1, .int u_11.1]) (rest := [.ref (E.1 (13 + 11 * j))]) ⟨hx, hb0, hml, hown, hts⟩ (qX3_ofKind l D E KL_2 kc_3 on rw u_12 ft tr (va_up la j L_6) mo H.size u_9.1 x2_1 u_10.1 u_11.1) (va_cwS 4 hts (zgS k1_233 k1_234 k0_15 k1_235) rfl rfl rfl (by decide +kernel) ⟨Nat.le_of_ble_eq_true rfl, Nat.le_of_ble_eq_true rfl⟩) (zps hE hS hA hK hP hD) rfl rfl hl.1 rfl (lv_room (Nat.le_of_ble_eq_true rfl)) dX6_readKeepers_64 ⟨(show _ ≤ 8 by omega), (show _ ≤ 24 by omega)⟩) hsz hD hS hA (fun H locs hP hD hS => ?_)
        have hP : va_P D vwCl (zW E (KL_2 ++ [hb_4]) (va_up kc_3 hb_4 (zko u_9.1, x2_1, u_10.1, u_11.1)) on rw u_12 ft tr (va_up la j L_6) mo) H := hP
        have hD : va_D A (zW E (KL_2 ++ [hb_4]) (va_up kc_3 hb_4 (zko u_9.1, x2_1, u_10.1, u_11.1)) on rw u_12 ft tr (va_up la j L_6) mo) := hD
        have km_13 : hb_4 ∈ KL_2 ++ [hb_4] := List.mem_append_right _ List.mem_cons_self
        have hkk_14 : ((va_up kc_3 hb_4 (zko u_9.1, x2_1, u_10.1, u_11.1)) hb_4).1 = 0 ∨ ((va_up kc_3 hb_4 (zko u_9.1, x2_1, u_10.1, u_11.1)) hb_4).1 = 1 ∨ ((va_up kc_3 hb_4 (zko u_9.1, x2_1, u_10.1, u_11.1)) hb_4).1 = 4 ∨ ((va_up kc_3 hb_4 (zko u_9.1, x2_1, u_10.1, u_11.1)) hb_4).1 = 7 ∨ ((va_up kc_3 hb_4 (zko u_9.1, x2_1, u_10.1, u_11.1)) hb_4).1 = 9 := zko_ok _ _ _ _ _ _
        refine zsz (fun hz9 => ?_)
        have hz8 := va_pl_lt (X := zX E on rw u_12 ft tr (va_up la j L_6) mo) (f := zkf (va_up kc_3 hb_4 (zko u_9.1, x2_1, u_10.1, u_11.1))) hP km_13
        have hsz : H.size = hb_4 + 1 := by omega
        have hrv_15 := (va_recv hK hP (ci := 3) (q0 := 13 + 11 * j) rfl (zg_L _ _ _ _ _ _ _ _ _ _ hj _))
        obtain ⟨u_16, hu_16, hF⟩ := zbd hF
        refine zcl_v (va_runV (As := [.ref hb_4]) (rest := []) ⟨hx, hb0, hml, hown, hts⟩ (qX4_addKeeper l D E (KL_2 ++ [hb_4]) (va_up kc_3 hb_4 (zko u_9.1, x2_1, u_10.1, u_11.1)) on rw u_12 ft tr la mo j hj L_6 hb_4 km_13 (by omega) N _ _ hu_16) (cwV 1 hts (zgV k2_64 k2_65 k2_66 k0_6 k2_67) rfl rfl rfl (by decide +kernel) ⟨Nat.le_of_ble_eq_true rfl, Nat.le_of_ble_eq_true rfl⟩) (zpv hE hS hA hK hP hD hrv_15) rfl rfl hl.1 rfl (lv_room (Nat.le_of_ble_eq_true rfl)) dX6_readKeepers_67 ⟨(show _ ≤ 8 by omega), (show _ ≤ 24 by omega)⟩) hD hS hA (fun H locs hz7 hP hD hS => ?_)
        refine zsz (fun hz9 => ?_)
        have hsz : H.size = hb_4 + 1 := by omega
        refine lv_iinc (v := x2_1 + (1 : Int32)) (lv' := [(2, .int (x2_1 + (1 : Int32))), (5, .int u_11.1), (4, .int u_10.1), (3, .int u_9.1), (0, .ref (E.1 5)), (1, .ref (E.1 (13 + 11 * j)))]) hx hb0 dX6_readKeepers_70 hl (k := 5) rfl rfl (by decide) rfl (fun ls hl => ?_)
        refine lv_goto (tgt := 2) hx hb0 dX6_readKeepers_73 (by decide) ?_
        exact ih (x2_1 + (1 : Int32)) (KL_2 ++ [hb_4]) (va_up kc_3 hb_4 (zko u_9.1, x2_1, u_10.1, u_11.1)) (hb_4 + 1) u_12 u_16 _ hF kx_1_0 _ _ _ (kk + 1) (by omega) (by omega) hsz hP hD hS (lv_sub hl [4, 5, 0] rfl)
      · have hF := zif c_7 hF
        refine lv_iload_n hx hb0 dX6_readKeepers_6 rfl (lv_at hl 2 rfl) ?_
        refine lv_bipush (v := 6) hx hb0 dX6_readKeepers_7 (by decide) ?_
        refine lv_icmp_gt (tgt := 76) hx hb0 dX6_readKeepers_9 (by decide) (fun c_17 => ?_) (fun c_17 => ?_)
        · have hF := zit c_17 hF
          exact kx_1_0 KL_2 kc_3 hb_4 rd_5 L_6 (Option.some.inj hF) _ _ _ kk (by omega) hhb hsz hP hD hS (lv_sub hl [] rfl)
        · have hF := zif c_17 hF
          refine lv_aload_n hx hb0 dX6_readKeepers_12 rfl (lv_at hl 0 rfl) ?_
          refine va_ldcS (own := RX6) (tx := zst.getD 5 "") (q := E.2.2.2.2.2.1 5) hx hb0 hown (hE.2.2.2.1 5 (by decide)) dX6_readKeepers_13 ?_
          obtain ⟨u_18, hu_18, hF⟩ := zbd hF
          refine zcl_i (va_runV (As := [.ref (E.2.2.2.2.2.1 5)]) (rest := []) ⟨hx, hb0, hml, hown, hts⟩ (qX6_isWord l D E KL_2 kc_3 on rw rd_5 ft tr (va_up la j L_6) mo N _ 5 _ hu_18) (cwV 1 hts (zgV k1_130 k1_132 kp0_7 k0_4 k1_133) rfl rfl rfl (by decide +kernel) ⟨Nat.le_of_ble_eq_true rfl, Nat.le_of_ble_eq_true rfl⟩) (zpv hE hS hA hK hP hD (va_recv hK hP (ci := 5) (q0 := 5) rfl (zg_rd _ _ _ _ _ _ _ _ _ _))) rfl rfl hl.1 rfl (lv_room (Nat.le_of_ble_eq_true rfl)) dX6_readKeepers_15 ⟨(show _ ≤ 8 by omega), (show _ ≤ 24 by omega)⟩) hD hS hA (fun H locs hz7 hP hD hS => ?_)
          refine zsz (fun hz9 => ?_)
          have hsz : H.size = hb_4 := by omega
          refine lv_if_eq (tgt := 76) hx hb0 dX6_readKeepers_18 (by decide) (fun c_19 => ?_) (fun c_19 => ?_)
          · have hF := zit c_19 hF
            exact kx_1_0 KL_2 kc_3 hb_4 rd_5 L_6 (Option.some.inj hF) _ _ _ kk (by omega) hhb hsz hP hD hS (lv_sub hl [] rfl)
          · have hF := zif c_19 hF
            refine lv_aload_n hx hb0 dX6_readKeepers_21 rfl (lv_at hl 0 rfl) ?_
            refine va_ldcS (own := RX6) (tx := zst.getD 5 "") (q := E.2.2.2.2.2.1 5) hx hb0 hown (hE.2.2.2.1 5 (by decide)) dX6_readKeepers_22 ?_
            refine lv_iload_n hx hb0 dX6_readKeepers_24 rfl (lv_at hl 2 rfl) ?_
            refine lv_bipush (v := 6) hx hb0 dX6_readKeepers_25 (by decide) ?_
            obtain ⟨u_20, hu_20, hF⟩ := zbd hF
            refine zcl_v (va_runV (As := [.ref (E.2.2.2.2.2.1 5), .int x2_1, .int (6 : Int32)]) (rest := []) ⟨hx, hb0, hml, hown, hts⟩ (qX6_takeWordOf l D E KL_2 kc_3 on rw rd_5 ft tr (va_up la j L_6) mo N _ 5 x2_1 (6 : Int32) _ hu_20) (cwV 3 hts (zgV k1_202 k1_204 kp0_12 k0_4 k1_205) rfl rfl rfl (by decide +kernel) ⟨Nat.le_of_ble_eq_true rfl, Nat.le_of_ble_eq_true rfl⟩) (zpv hE hS hA hK hP hD (va_recv hK hP (ci := 5) (q0 := 5) rfl (zg_rd _ _ _ _ _ _ _ _ _ _))) rfl rfl hl.1 rfl (lv_room (Nat.le_of_ble_eq_true rfl)) dX6_readKeepers_27 ⟨(show _ ≤ 8 by omega), (show _ ≤ 24 by omega)⟩) hD hS hA (fun H locs hz7 hP hD hS => ?_)
            refine zsz (fun hz9 => ?_)
            have hsz : H.size = hb_4 := by omega
            refine lv_aload_n hx hb0 dX6_readKeepers_30 rfl (lv_at hl 0 rfl) ?_
            obtain ⟨u_21, hu_21, hF⟩ := zbd hF
            refine zcl_i (va_runV (As := []) (rest := []) ⟨hx, hb0, hml, hown, hts⟩ (qX6_takeKind l D E KL_2 kc_3 on rw u_20 ft tr (va_up la j L_6) mo N _ _ hu_21) (cwV 0 hts (zgV k1_220 k1_222 kp0_15 k0_4 k1_223) rfl rfl rfl (by decide +kernel) ⟨Nat.le_of_ble_eq_true rfl, Nat.le_of_ble_eq_true rfl⟩) (zpv hE hS hA hK hP hD (va_recv hK hP (ci := 5) (q0 := 5) rfl (zg_rd _ _ _ _ _ _ _ _ _ _))) rfl rfl hl.1 rfl (lv_room (Nat.le_of_ble_eq_true rfl)) dX6_readKeepers_31 ⟨(show _ ≤ 8 by omega), (show _ ≤ 24 by omega)⟩) hD hS hA (fun H locs hz7 hP hD hS => ?_)
            refine zsz (fun hz9 => ?_)
            have hsz : H.size = hb_4 := by omega
            refine lv_istore_n (lv' := [(3, .int u_21.1), (0, .ref (E.1 5)), (1, .ref (E.1 (13 + 11 * j))), (2, .int x2_1)]) hx hb0 dX6_readKeepers_34 rfl hl (by decide) rfl (fun ls hl => ?_)
            refine lv_aload_n hx hb0 dX6_readKeepers_35 rfl (lv_at hl 1 rfl) ?_
            refine lv_iconst (v := 0) hx hb0 dX6_readKeepers_36 (by decide) ?_
            refine lv_bipush (v := 60) hx hb0 dX6_readKeepers_37 (by decide) ?_
            obtain ⟨u_22, hu_22, hF⟩ := zbd hF
            refine zcl_i (va_runV (As := [.int (0 : Int32), .int (60 : Int32)]) (rest := []) ⟨hx, hb0, hml, hown, hts⟩ (qX6_takeNumber l D E KL_2 kc_3 on rw u_21.2 ft tr (va_up la j L_6) mo N _ (0 : Int32) (60 : Int32) _ hu_22) (cwV 2 hts (zgV k1_188 k1_190 kp0_9 k0_4 k1_191) rfl rfl rfl (by decide +kernel) ⟨Nat.le_of_ble_eq_true rfl, Nat.le_of_ble_eq_true rfl⟩) (zpv hE hS hA hK hP hD (va_recv hK hP (ci := 5) (q0 := 5) rfl (zg_rd _ _ _ _ _ _ _ _ _ _))) rfl rfl hl.1 rfl (lv_room (Nat.le_of_ble_eq_true rfl)) dX6_readKeepers_39 ⟨(show _ ≤ 8 by omega), (show _ ≤ 24 by omega)⟩) hD hS hA (fun H locs hz7 hP hD hS => ?_)
            refine zsz (fun hz9 => ?_)
            have hsz : H.size = hb_4 := by omega
            refine lv_istore (lv' := [(4, .int u_22.1), (3, .int u_21.1), (0, .ref (E.1 5)), (1, .ref (E.1 (13 + 11 * j))), (2, .int x2_1)]) hx hb0 dX6_readKeepers_42 hl (by decide) rfl (fun ls hl => ?_)
            refine lv_aload_n hx hb0 dX6_readKeepers_44 rfl (lv_at hl 2 rfl) ?_
            refine lv_iconst (v := 1) hx hb0 dX6_readKeepers_45 (by decide) ?_
            refine lv_bipush (v := 9) hx hb0 dX6_readKeepers_46 (by decide) ?_
            obtain ⟨u_23, hu_23, hF⟩ := zbd hF
            refine zcl_i (va_runV (As := [.int (1 : Int32), .int (9 : Int32)]) (rest := []) ⟨hx, hb0, hml, hown, hts⟩ (qX6_takeNumber l D E KL_2 kc_3 on rw u_22.2 ft tr (va_up la j L_6) mo N _ (1 : Int32) (9 : Int32) _ hu_23) (cwV 2 hts (zgV k1_188 k1_190 kp0_9 k0_4 k1_191) rfl rfl rfl (by decide +kernel) ⟨Nat.le_of_ble_eq_true rfl, Nat.le_of_ble_eq_true rfl⟩) (zpv hE hS hA hK hP hD (va_recv hK hP (ci := 5) (q0 := 5) rfl (zg_rd _ _ _ _ _ _ _ _ _ _))) rfl rfl hl.1 rfl (lv_room (Nat.le_of_ble_eq_true rfl)) dX6_readKeepers_48 ⟨(show _ ≤ 8 by omega), (show _ ≤ 24 by omega)⟩) hD hS hA (fun H locs hz7 hP hD hS => ?_)
            refine zsz (fun hz9 => ?_)
            have hsz : H.size = hb_4 := by omega
            refine lv_istore (lv' := [(5, .int u_23.1), (4, .int u_22.1), (3, .int u_21.1), (0, .ref (E.1 5)), (1, .ref (E.1 (13 + 11 * j))), (2, .int x2_1)]) hx hb0 dX6_readKeepers_51 hl (by decide) rfl (fun ls hl => ?_)
            refine lv_aload_n hx hb0 dX6_readKeepers_53 rfl (lv_at hl 3 rfl) ?_
            obtain ⟨u_24, hu_24, hF⟩ := zbd hF
            refine zcl_v (va_runV (As := []) (rest := []) ⟨hx, hb0, hml, hown, hts⟩ (qX6_takeSign l D E KL_2 kc_3 on rw u_23.2 ft tr (va_up la j L_6) mo N _ _ hu_24) (cwV 0 hts (zgV k1_193 k1_195 kp0_10 k0_4 k1_196) rfl rfl rfl (by decide +kernel) ⟨Nat.le_of_ble_eq_true rfl, Nat.le_of_ble_eq_true rfl⟩) (zpv hE hS hA hK hP hD (va_recv hK hP (ci := 5) (q0 := 5) rfl (zg_rd _ _ _ _ _ _ _ _ _ _))) rfl rfl hl.1 rfl (lv_room (Nat.le_of_ble_eq_true rfl)) dX6_readKeepers_54 ⟨(show _ ≤ 8 by omega), (show _ ≤ 24 by omega)⟩) hD hS hA (fun H locs hz7 hP hD hS => ?_)
            refine zsz (fun hz9 => ?_)
            have hsz : H.size = hb_4 := by omega
            refine lv_aload_n hx hb0 dX6_readKeepers_57 rfl (lv_at hl 4 rfl) ?_
            refine lv_iload_n hx hb0 dX6_readKeepers_58 rfl (lv_at hl 2 rfl) ?_
            refine lv_iload_n hx hb0 dX6_readKeepers_59 rfl (lv_at hl 5 rfl) ?_
            refine lv_iload hx hb0 dX6_readKeepers_60 (lv_at hl 1 rfl) ?_
            refine lv_iload hx hb0 dX6_readKeepers_62 (lv_at hl 0 rfl) ?_
            refine zcall_k (w := zW E KL_2 kc_3 on rw u_24 ft tr (va_up la j L_6) mo) (w' := fun b9 : Nat => zW E (KL_2 ++ [b9]) (va_up kc_3 b9 (zko u_21.1, x2_1, u_22.1, u_23.1)) on rw u_24 ft tr (va_up la j L_6) mo) (va_runS (As := [.int u_21.1, .int x2_1, .int u_22.1, .int u_23.1]) (rest := [.ref (E.1 (13 + 11 * j))]) ⟨hx, hb0, hml, hown, hts⟩ (qX3_ofKind l D E KL_2 kc_3 on rw u_24 ft tr (va_up la j L_6) mo H.size u_21.1 x2_1 u_22.1 u_23.1) (va_cwS 4 hts (zgS k1_233 k1_234 k0_15 k1_235) rfl rfl rfl (by decide +kernel) ⟨Nat.le_of_ble_eq_true rfl, Nat.le_of_ble_eq_true rfl⟩) (zps hE hS hA hK hP hD) rfl rfl hl.1 rfl (lv_room (Nat.le_of_ble_eq_true rfl)) dX6_readKeepers_64 ⟨(show _ ≤ 8 by omega), (show _ ≤ 24 by omega)⟩) hsz hD hS hA (fun H locs hP hD hS => ?_)
            have hP : va_P D vwCl (zW E (KL_2 ++ [hb_4]) (va_up kc_3 hb_4 (zko u_21.1, x2_1, u_22.1, u_23.1)) on rw u_24 ft tr (va_up la j L_6) mo) H := hP
            have hD : va_D A (zW E (KL_2 ++ [hb_4]) (va_up kc_3 hb_4 (zko u_21.1, x2_1, u_22.1, u_23.1)) on rw u_24 ft tr (va_up la j L_6) mo) := hD
            have km_25 : hb_4 ∈ KL_2 ++ [hb_4] := List.mem_append_right _ List.mem_cons_self
            have hkk_26 : ((va_up kc_3 hb_4 (zko u_21.1, x2_1, u_22.1, u_23.1)) hb_4).1 = 0 ∨ ((va_up kc_3 hb_4 (zko u_21.1, x2_1, u_22.1, u_23.1)) hb_4).1 = 1 ∨ ((va_up kc_3 hb_4 (zko u_21.1, x2_1, u_22.1, u_23.1)) hb_4).1 = 4 ∨ ((va_up kc_3 hb_4 (zko u_21.1, x2_1, u_22.1, u_23.1)) hb_4).1 = 7 ∨ ((va_up kc_3 hb_4 (zko u_21.1, x2_1, u_22.1, u_23.1)) hb_4).1 = 9 := zko_ok _ _ _ _ _ _
            refine zsz (fun hz9 => ?_)
            have hz8 := va_pl_lt (X := zX E on rw u_24 ft tr (va_up la j L_6) mo) (f := zkf (va_up kc_3 hb_4 (zko u_21.1, x2_1, u_22.1, u_23.1))) hP km_25
            have hsz : H.size = hb_4 + 1 := by omega
            have hrv_27 := (va_recv hK hP (ci := 3) (q0 := 13 + 11 * j) rfl (zg_L _ _ _ _ _ _ _ _ _ _ hj _))
            obtain ⟨u_28, hu_28, hF⟩ := zbd hF
            refine zcl_v (va_runV (As := [.ref hb_4]) (rest := []) ⟨hx, hb0, hml, hown, hts⟩ (qX4_addKeeper l D E (KL_2 ++ [hb_4]) (va_up kc_3 hb_4 (zko u_21.1, x2_1, u_22.1, u_23.1)) on rw u_24 ft tr la mo j hj L_6 hb_4 km_25 (by omega) N _ _ hu_28) (cwV 1 hts (zgV k2_64 k2_65 k2_66 k0_6 k2_67) rfl rfl rfl (by decide +kernel) ⟨Nat.le_of_ble_eq_true rfl, Nat.le_of_ble_eq_true rfl⟩) (zpv hE hS hA hK hP hD hrv_27) rfl rfl hl.1 rfl (lv_room (Nat.le_of_ble_eq_true rfl)) dX6_readKeepers_67 ⟨(show _ ≤ 8 by omega), (show _ ≤ 24 by omega)⟩) hD hS hA (fun H locs hz7 hP hD hS => ?_)
            refine zsz (fun hz9 => ?_)
            have hsz : H.size = hb_4 + 1 := by omega
            refine lv_iinc (v := x2_1 + (1 : Int32)) (lv' := [(2, .int (x2_1 + (1 : Int32))), (5, .int u_23.1), (4, .int u_22.1), (3, .int u_21.1), (0, .ref (E.1 5)), (1, .ref (E.1 (13 + 11 * j)))]) hx hb0 dX6_readKeepers_70 hl (k := 5) rfl rfl (by decide) rfl (fun ls hl => ?_)
            refine lv_goto (tgt := 2) hx hb0 dX6_readKeepers_73 (by decide) ?_
            exact ih (x2_1 + (1 : Int32)) (KL_2 ++ [hb_4]) (va_up kc_3 hb_4 (zko u_21.1, x2_1, u_22.1, u_23.1)) (hb_4 + 1) u_24 u_28 _ hF kx_1_0 _ _ _ (kk + 1) (by omega) (by omega) hsz hP hD hS (lv_sub hl [4, 5, 0] rfl)
  exact lp_1 8 (0 : Int32) KL kc hb rd L _ ho_29 kx_1_0 _ _ _ 0 (by omega) (by omega) hsz0 hP hD hS (lv_sub hl [1, 2, 0] rfl)
def fX6_readInto (N : Nat) (KL : List Nat) (kc : Nat → zKC) (hb : Nat) (rd : zOS) (L : zLS) : Option (Int32 × List Nat × (Nat → zKC) × Nat × zOS × zLS) :=
  (fX4_forget N L).bind fun u_2 =>
  (fX6_advance N (zpi (zpi rd 4 (0 : Int32)) 6 (0 : Int32))).bind fun u_3 =>
  (fX6_readLaw N u_3 u_2).bind fun u_4 =>
  (fX6_readPoints N u_4.1 u_4.2).bind fun u_5 =>
  (fX6_readChest N u_5.1 u_5.2).bind fun u_6 =>
  (fX6_readKeepers N KL kc hb u_6.1 u_6.2).bind fun u_7 =>
  (fX6_readNews N u_7.2.2.2.1 u_7.2.2.2.2).bind fun u_8 =>
  (fX4_begin N u_7.1 u_7.2.1 u_8.2).bind fun u_10 =>
  if (u_8.1.1 4) = (6 : Int32) then
    some ((0 : Int32), u_7.1, u_7.2.1, u_7.2.2.1, u_8.1, u_10)
  else
    some ((1 : Int32), u_7.1, u_7.2.1, u_7.2.2.1, u_8.1, u_10)
set_option maxHeartbeats 1000000 in
set_option maxRecDepth 100000 in
theorem qX6_readInto (l : Launch) (D : va_G) (E : zE) (KL : List Nat) (kc : Nat → zKC) (on : zNS) (rw rd ft tr : zOS) (la : Nat → zLS) (mo : zMS) (j : Nat) (hj : j < 5) (L : zLS) (N hb : Nat)  (out : Int32 × List Nat × (Nat → zKC) × Nat × zOS × zLS) (hF : fX6_readInto N KL kc hb rd L = some out) : zCi l yX6_readInto zwX6_readInto ({ frames := 8, cells := 8, slots := 24, locals := 176 }) [.ref (E.1 5), .ref (E.1 (13 + 11 * j))] D E hb (zW E KL kc on rw rd ft tr (va_up la j L) mo) (zW E out.2.1 out.2.2.1 on rw out.2.2.2.2.1 ft tr (va_up la j out.2.2.2.2.2) mo) out.1 8 24 := by
  refine zent_za (cc := cX6_readInto) (nL := 2) (by decide) rfl (Nat.le_of_ble_eq_true rfl) ?_
  intro p e s m args below meth c Q A hx hb0 hml hown hts hA hK hP hD hS hE hsz0 ls hl hend
  have hown : s.vm.findClass RX6 = some m.cls := hown
  have hl : lv_has ls 2 [(0, .ref (E.1 5)), (1, .ref (E.1 (13 + 11 * j)))] := hl
  rw [fX6_readInto] at hF
  refine lv_aload_n hx hb0 dX6_readInto_0 rfl (lv_at hl 1 rfl) ?_
  have hrv_1 := (va_recv hK hP (ci := 3) (q0 := 13 + 11 * j) rfl (zg_L _ _ _ _ _ _ _ _ _ _ hj _))
  obtain ⟨u_2, hu_2, hF⟩ := zbd hF
  refine zcall_v (va_runV (As := []) (rest := []) ⟨hx, hb0, hml, hown, hts⟩ (qX4_forget l D E KL kc on rw rd ft tr la mo j hj L N _ _ hu_2) (cwV 0 hts (zgV k1_99 k1_100 k1_101 k0_6 k1_102) rfl rfl rfl (by decide +kernel) ⟨Nat.le_of_ble_eq_true rfl, Nat.le_of_ble_eq_true rfl⟩) (zpv hE hS hA hK hP hD hrv_1) rfl rfl hl.1 rfl (lv_room (Nat.le_of_ble_eq_true rfl)) dX6_readInto_1 ⟨Nat.le_of_ble_eq_true rfl, Nat.le_of_ble_eq_true rfl⟩) hD hS hA (fun H locs hP hD hS => ?_)
  refine lv_aload_n hx hb0 dX6_readInto_4 rfl (lv_at hl 0 rfl) ?_
  refine lv_iconst (v := 0) hx hb0 dX6_readInto_5 (by decide) ?_
  refine va_put (D := D) (ci := 5) (v := .int (0 : Int32)) (ty := .int) (C := RX6) (T := TX6) (N := 8) hx hb0 hts (zi iX6) tyX6 tyX6_ok nmX6 hown hK hP hD hS 5 (zg_rd _ _ _ _ _ _ _ _ _ _) rfl 4 (by decide) (zh hts k0_62) (fun _ h9 => h9) rfl (by decide +kernel) rfl rfl (Nat.le_of_ble_eq_true rfl) dX6_readInto_6 (fun H locs hP hD hS => ?_)
  rw [zs_rd_4] at hP hD
  refine lv_aload_n hx hb0 dX6_readInto_9 rfl (lv_at hl 0 rfl) ?_
  refine lv_iconst (v := 0) hx hb0 dX6_readInto_10 (by decide) ?_
  refine va_put (D := D) (ci := 5) (v := .int (0 : Int32)) (ty := .int) (C := RX6) (T := TX6) (N := 8) hx hb0 hts (zi iX6) tyX6 tyX6_ok nmX6 hown hK hP hD hS 5 (zg_rd _ _ _ _ _ _ _ _ _ _) rfl 6 (by decide) (zh hts k0_64) (fun _ h9 => h9) rfl (by decide +kernel) rfl rfl (Nat.le_of_ble_eq_true rfl) dX6_readInto_11 (fun H locs hP hD hS => ?_)
  rw [zs_rd_6] at hP hD
  refine lv_aload_n hx hb0 dX6_readInto_14 rfl (lv_at hl 0 rfl) ?_
  obtain ⟨u_3, hu_3, hF⟩ := zbd hF
  refine zcall_v (va_runV (As := []) (rest := []) ⟨hx, hb0, hml, hown, hts⟩ (qX6_advance l D E KL kc on rw (zpi (zpi rd 4 (0 : Int32)) 6 (0 : Int32)) ft tr (va_up la j u_2) mo N _ _ hu_3) (cwV 0 hts (zgV k1_103 k1_105 kp0_2 k0_4 k1_106) rfl rfl rfl (by decide +kernel) ⟨Nat.le_of_ble_eq_true rfl, Nat.le_of_ble_eq_true rfl⟩) (zpv hE hS hA hK hP hD (va_recv hK hP (ci := 5) (q0 := 5) rfl (zg_rd _ _ _ _ _ _ _ _ _ _))) rfl rfl hl.1 rfl (lv_room (Nat.le_of_ble_eq_true rfl)) dX6_readInto_15 ⟨Nat.le_of_ble_eq_true rfl, Nat.le_of_ble_eq_true rfl⟩) hD hS hA (fun H locs hP hD hS => ?_)
  refine lv_aload_n hx hb0 dX6_readInto_18 rfl (lv_at hl 0 rfl) ?_
  refine lv_aload_n hx hb0 dX6_readInto_19 rfl (lv_at hl 1 rfl) ?_
  obtain ⟨u_4, hu_4, hF⟩ := zbd hF
  refine zcall_v (va_runV (As := [.ref (E.1 (13 + 11 * j))]) (rest := []) ⟨hx, hb0, hml, hown, hts⟩ (qX6_readLaw l D E KL kc on rw u_3 ft tr la mo j hj u_2 N _ _ hu_4) (cwV 1 hts (zgV k1_121 k1_123 kp0_5 k0_4 k1_124) rfl rfl rfl (by decide +kernel) ⟨Nat.le_of_ble_eq_true rfl, Nat.le_of_ble_eq_true rfl⟩) (zpv hE hS hA hK hP hD (va_recv hK hP (ci := 5) (q0 := 5) rfl (zg_rd _ _ _ _ _ _ _ _ _ _))) rfl rfl hl.1 rfl (lv_room (Nat.le_of_ble_eq_true rfl)) dX6_readInto_20 ⟨Nat.le_of_ble_eq_true rfl, Nat.le_of_ble_eq_true rfl⟩) hD hS hA (fun H locs hP hD hS => ?_)
  refine lv_aload_n hx hb0 dX6_readInto_23 rfl (lv_at hl 0 rfl) ?_
  refine lv_aload_n hx hb0 dX6_readInto_24 rfl (lv_at hl 1 rfl) ?_
  obtain ⟨u_5, hu_5, hF⟩ := zbd hF
  refine zcall_v (va_runV (As := [.ref (E.1 (13 + 11 * j))]) (rest := []) ⟨hx, hb0, hml, hown, hts⟩ (qX6_readPoints l D E KL kc on rw u_4.1 ft tr la mo j hj u_4.2 N _ _ hu_5) (cwV 1 hts (zgV k1_197 k1_199 kp0_11 k0_4 k1_200) rfl rfl rfl (by decide +kernel) ⟨Nat.le_of_ble_eq_true rfl, Nat.le_of_ble_eq_true rfl⟩) (zpv hE hS hA hK hP hD (va_recv hK hP (ci := 5) (q0 := 5) rfl (zg_rd _ _ _ _ _ _ _ _ _ _))) rfl rfl hl.1 rfl (lv_room (Nat.le_of_ble_eq_true rfl)) dX6_readInto_25 ⟨Nat.le_of_ble_eq_true rfl, Nat.le_of_ble_eq_true rfl⟩) hD hS hA (fun H locs hP hD hS => ?_)
  refine lv_aload_n hx hb0 dX6_readInto_28 rfl (lv_at hl 0 rfl) ?_
  refine lv_aload_n hx hb0 dX6_readInto_29 rfl (lv_at hl 1 rfl) ?_
  obtain ⟨u_6, hu_6, hF⟩ := zbd hF
  refine zcall_v (va_runV (As := [.ref (E.1 (13 + 11 * j))]) (rest := []) ⟨hx, hb0, hml, hown, hts⟩ (qX6_readChest l D E KL kc on rw u_5.1 ft tr la mo j hj u_5.2 N _ _ hu_6) (cwV 1 hts (zgV k1_210 k1_212 kp0_13 k0_4 k1_213) rfl rfl rfl (by decide +kernel) ⟨Nat.le_of_ble_eq_true rfl, Nat.le_of_ble_eq_true rfl⟩) (zpv hE hS hA hK hP hD (va_recv hK hP (ci := 5) (q0 := 5) rfl (zg_rd _ _ _ _ _ _ _ _ _ _))) rfl rfl hl.1 rfl (lv_room (Nat.le_of_ble_eq_true rfl)) dX6_readInto_30 ⟨Nat.le_of_ble_eq_true rfl, Nat.le_of_ble_eq_true rfl⟩) hD hS hA (fun H locs hP hD hS => ?_)
  refine lv_aload_n hx hb0 dX6_readInto_33 rfl (lv_at hl 0 rfl) ?_
  refine lv_aload_n hx hb0 dX6_readInto_34 rfl (lv_at hl 1 rfl) ?_
  obtain ⟨u_7, hu_7, hF⟩ := zbd hF
  refine zsz (fun hz9 => ?_)
  have hsz9 : hb = H.size := (hsz0.symm.trans (Nat.le_antisymm hS.1 hz9))
  rw [hsz9] at hu_7
  refine zcall_v (va_runV (As := [.ref (E.1 (13 + 11 * j))]) (rest := []) ⟨hx, hb0, hml, hown, hts⟩ (qX6_readKeepers l D E KL kc on rw u_6.1 ft tr la mo j hj u_6.2 N _ _ hu_7) (cwV 1 hts (zgV k1_215 k1_217 kp0_14 k0_4 k1_218) rfl rfl rfl (by decide +kernel) ⟨Nat.le_of_ble_eq_true rfl, Nat.le_of_ble_eq_true rfl⟩) (zpv hE hS hA hK hP hD (va_recv hK hP (ci := 5) (q0 := 5) rfl (zg_rd _ _ _ _ _ _ _ _ _ _))) rfl rfl hl.1 rfl (lv_room (Nat.le_of_ble_eq_true rfl)) dX6_readInto_35 ⟨Nat.le_of_ble_eq_true rfl, Nat.le_of_ble_eq_true rfl⟩) hD hS hA (fun H locs hP hD hS => ?_)
  refine lv_aload_n hx hb0 dX6_readInto_38 rfl (lv_at hl 0 rfl) ?_
  refine lv_aload_n hx hb0 dX6_readInto_39 rfl (lv_at hl 1 rfl) ?_
  obtain ⟨u_8, hu_8, hF⟩ := zbd hF
  refine zcall_v (va_runV (As := [.ref (E.1 (13 + 11 * j))]) (rest := []) ⟨hx, hb0, hml, hown, hts⟩ (qX6_readNews l D E u_7.1 u_7.2.1 on rw u_7.2.2.2.1 ft tr la mo j hj u_7.2.2.2.2 N _ _ hu_8) (cwV 1 hts (zgV k2_68 k2_70 kp1_1 k0_4 k2_71) rfl rfl rfl (by decide +kernel) ⟨Nat.le_of_ble_eq_true rfl, Nat.le_of_ble_eq_true rfl⟩) (zpv hE hS hA hK hP hD (va_recv hK hP (ci := 5) (q0 := 5) rfl (zg_rd _ _ _ _ _ _ _ _ _ _))) rfl rfl hl.1 rfl (lv_room (Nat.le_of_ble_eq_true rfl)) dX6_readInto_40 ⟨Nat.le_of_ble_eq_true rfl, Nat.le_of_ble_eq_true rfl⟩) hD hS hA (fun H locs hP hD hS => ?_)
  refine lv_aload_n hx hb0 dX6_readInto_43 rfl (lv_at hl 1 rfl) ?_
  have hrv_9 := (va_recv hK hP (ci := 3) (q0 := 13 + 11 * j) rfl (zg_L _ _ _ _ _ _ _ _ _ _ hj _))
  obtain ⟨u_10, hu_10, hF⟩ := zbd hF
  refine zcall_v (va_runV (As := []) (rest := []) ⟨hx, hb0, hml, hown, hts⟩ (qX4_begin l D E u_7.1 u_7.2.1 on rw u_8.1 ft tr la mo j hj u_8.2 N _ _ hu_10) (cwV 0 hts (zgV k2_77 k2_78 k2_79 k0_6 k2_80) rfl rfl rfl (by decide +kernel) ⟨Nat.le_of_ble_eq_true rfl, Nat.le_of_ble_eq_true rfl⟩) (zpv hE hS hA hK hP hD hrv_9) rfl rfl hl.1 rfl (lv_room (Nat.le_of_ble_eq_true rfl)) dX6_readInto_44 ⟨Nat.le_of_ble_eq_true rfl, Nat.le_of_ble_eq_true rfl⟩) hD hS hA (fun H locs hP hD hS => ?_)
  refine lv_aload_n hx hb0 dX6_readInto_47 rfl (lv_at hl 0 rfl) ?_
  refine va_get (D := D) (ci := 5) (v := .int (u_8.1.1 4)) (C := RX6) (T := TX6) (N := 8) hx hb0 hts (zi iX6) hown hK hP 5 (zg_rd _ _ _ _ _ _ _ _ _ _) rfl 4 (by decide) (zh hts k0_62) (fun _ h9 => h9) rfl dX6_readInto_48 ?_
  refine lv_bipush (v := 6) hx hb0 dX6_readInto_51 (by decide) ?_
  refine lv_icmp_eq (tgt := 60) hx hb0 dX6_readInto_53 (by decide) (fun c_11 => ?_) (fun c_11 => ?_)
  · have hF := zit c_11 hF
    refine lv_iconst (v := 0) hx hb0 dX6_readInto_60 (by decide) ?_
    obtain rfl := Option.some.inj hF
    refine W.widen (k := 8) (n := 24) (show _ ≤ 8 by omega) (show _ ≤ 24 by omega) ?_
    exact hend _ _ _ _ znar0 hP hD hS dX6_readInto_61
  · have hF := zif c_11 hF
    refine lv_iconst (v := 1) hx hb0 dX6_readInto_56 (by decide) ?_
    refine lv_goto (tgt := 61) hx hb0 dX6_readInto_57 (by decide) ?_
    obtain rfl := Option.some.inj hF
    refine W.widen (k := 8) (n := 24) (show _ ≤ 8 by omega) (show _ ≤ 24 by omega) ?_
    exact hend _ _ _ _ znar1 hP hD hS dX6_readInto_61
def fX11_land (N : Nat) (KL : List Nat) (kc : Nat → zKC) (hb : Nat) (on : zNS) (rd : zOS) (L : zLS) : Option (Int32 × List Nat × (Nat → zKC) × Nat × zNS × zOS × zLS) :=
  (fX6_readInto N KL kc hb rd L).bind fun u_1 =>
  (fX6_empty N u_1.2.2.2.2.1).bind fun u_2 =>
  if u_1.1 = 0 then
    some ((-1000100 : Int32) - (u_2.1 2), u_1.2.1, u_1.2.2.1, u_1.2.2.2.1, on, u_2, u_1.2.2.2.2.2)
  else
    some (u_1.2.2.2.2.2.1.1 6, u_1.2.1, u_1.2.2.1, u_1.2.2.2.1, (on.1, on.2.2, on.2.1), u_2, u_1.2.2.2.2.2)
set_option maxHeartbeats 1000000 in
set_option maxRecDepth 100000 in
theorem qX11_land (l : Launch) (D : va_G) (E : zE) (KL : List Nat) (kc : Nat → zKC) (on : zNS) (rw rd ft tr : zOS) (la : Nat → zLS) (mo : zMS) (hj : on.2.2 < 5) (L : zLS) (N hb : Nat)  (out : Int32 × List Nat × (Nat → zKC) × Nat × zNS × zOS × zLS) (hF : fX11_land N KL kc hb on rd L = some out) : zCi l yX11_land zwX11_land ({ frames := 9, cells := 8, slots := 24, locals := 197 }) [.ref (E.1 0)] D E hb (zW E KL kc on rw rd ft tr (va_up la on.2.2 L) mo) (zW E out.2.1 out.2.2.1 out.2.2.2.2.1 rw out.2.2.2.2.2.1 ft tr (va_up la on.2.2 out.2.2.2.2.2.2) mo) out.1 8 24 := by
  refine zent_ia (cc := cX11_land) (nL := 3) (by decide) rfl (Nat.le_of_ble_eq_true rfl) ?_
  intro p e s m args below meth c Q A hx hb0 hml hown hts hA hK hP hD hS hE hsz0 ls hl hend
  have hown : s.vm.findClass RX11 = some m.cls := hown
  have hl : lv_has ls 3 [(0, .ref (E.1 0))] := hl
  rw [fX11_land] at hF
  refine lv_aload_n hx hb0 dX11_land_0 rfl (lv_at hl 0 rfl) ?_
  refine va_get (D := D) (ci := 10) (v := .ref (E.1 5)) (C := RX11) (T := TX11) (N := 9) hx hb0 hts (zi iX11) hown hK hP 0 (zg_on _ _ _ _ _ _ _ _ _ _) rfl 1 (by decide) (zh hts k0_216) (fun _ h9 => h9) rfl dX11_land_1 ?_
  refine lv_aload_n hx hb0 dX11_land_4 rfl (lv_at hl 0 rfl) ?_
  refine va_get (D := D) (ci := 10) (v := .ref (E.1 (13 + 11 * on.2.2))) (C := RX11) (T := TX11) (N := 9) hx hb0 hts (zi iX11) hown hK hP 0 (zg_on _ _ _ _ _ _ _ _ _ _) rfl 7 (by decide) (zh hts k0_222) (fun _ h9 => h9) rfl dX11_land_5 ?_
  obtain ⟨u_1, hu_1, hF⟩ := zbd hF
  refine zsz (fun hz9 => ?_)
  have hsz9 : hb = s.heap.size := (hsz0.symm.trans (Nat.le_antisymm hS.1 hz9))
  rw [hsz9] at hu_1
  refine zcall_i (va_runV (As := [.ref (E.1 (13 + 11 * on.2.2))]) (rest := []) ⟨hx, hb0, hml, hown, hts⟩ (qX6_readInto l D E KL kc on rw rd ft tr la mo on.2.2 hj L N _ _ hu_1) (cwV 1 hts (zgV k1_95 k1_96 k1_97 k0_4 k1_98) rfl rfl rfl (by decide +kernel) ⟨Nat.le_of_ble_eq_true rfl, Nat.le_of_ble_eq_true rfl⟩) (zpv hE hS hA hK hP hD (va_recv hK hP (ci := 5) (q0 := 5) rfl (zg_rd _ _ _ _ _ _ _ _ _ _))) rfl rfl hl.1 rfl (lv_room (Nat.le_of_ble_eq_true rfl)) dX11_land_8 ⟨Nat.le_of_ble_eq_true rfl, Nat.le_of_ble_eq_true rfl⟩) hD hS hA (fun H locs hP hD hS => ?_)
  refine lv_istore_n (lv' := [(1, .int u_1.1), (0, .ref (E.1 0))]) hx hb0 dX11_land_11 rfl hl (by decide) rfl (fun ls hl => ?_)
  refine lv_aload_n hx hb0 dX11_land_12 rfl (lv_at hl 1 rfl) ?_
  refine va_get (D := D) (ci := 10) (v := .ref (E.1 5)) (C := RX11) (T := TX11) (N := 9) hx hb0 hts (zi iX11) hown hK hP 0 (zg_on _ _ _ _ _ _ _ _ _ _) rfl 1 (by decide) (zh hts k0_216) (fun _ h9 => h9) rfl dX11_land_13 ?_
  obtain ⟨u_2, hu_2, hF⟩ := zbd hF
  refine zcall_v (va_runV (As := []) (rest := []) ⟨hx, hb0, hml, hown, hts⟩ (qX6_empty l D E u_1.2.1 u_1.2.2.1 on rw u_1.2.2.2.2.1 ft tr (va_up la on.2.2 u_1.2.2.2.2.2) mo N _ _ hu_2) (cwV 0 hts (zgV k2_87 k2_88 k2_89 k0_4 k2_90) rfl rfl rfl (by decide +kernel) ⟨Nat.le_of_ble_eq_true rfl, Nat.le_of_ble_eq_true rfl⟩) (zpv hE hS hA hK hP hD (va_recv hK hP (ci := 5) (q0 := 5) rfl (zg_rd _ _ _ _ _ _ _ _ _ _))) rfl rfl hl.1 rfl (lv_room (Nat.le_of_ble_eq_true rfl)) dX11_land_16 ⟨Nat.le_of_ble_eq_true rfl, Nat.le_of_ble_eq_true rfl⟩) hD hS hA (fun H locs hP hD hS => ?_)
  refine lv_iload_n hx hb0 dX11_land_19 rfl (lv_at hl 0 rfl) ?_
  refine lv_if_ne (tgt := 34) hx hb0 dX11_land_20 (by decide) (fun c_3 => ?_) (fun c_3 => ?_)
  · have hF := zif c_3 hF
    refine lv_aload_n hx hb0 dX11_land_34 rfl (lv_at hl 1 rfl) ?_
    refine va_get (D := D) (ci := 10) (v := .ref (E.1 (13 + 11 * on.2.2))) (C := RX11) (T := TX11) (N := 9) hx hb0 hts (zi iX11) hown hK hP 0 (zg_on _ _ _ _ _ _ _ _ _ _) rfl 7 (by decide) (zh hts k0_222) (fun _ h9 => h9) rfl dX11_land_35 ?_
    refine lv_astore_n (lv' := [(2, .ref (E.1 (13 + 11 * on.2.2))), (1, .int u_1.1), (0, .ref (E.1 0))]) hx hb0 dX11_land_38 rfl hl (by decide) rfl (fun ls hl => ?_)
    refine lv_aload_n hx hb0 dX11_land_39 rfl (lv_at hl 2 rfl) ?_
    refine lv_aload_n hx hb0 dX11_land_40 rfl (lv_at hl 2 rfl) ?_
    refine va_get (D := D) (ci := 10) (v := .ref (E.1 (13 + 11 * on.2.1))) (C := RX11) (T := TX11) (N := 9) hx hb0 hts (zi iX11) hown hK hP 0 (zg_on _ _ _ _ _ _ _ _ _ _) rfl 6 (by decide) (zh hts k0_221) (fun _ h9 => h9) rfl dX11_land_41 ?_
    refine va_put (D := D) (ci := 10) (v := .ref (E.1 (13 + 11 * on.2.1))) (ty := .object "OldNews$Land") (C := RX11) (T := TX11) (N := 9) hx hb0 hts (zi iX11) tyX11 tyX11_ok nmX11 hown hK hP hD hS 0 (zg_on _ _ _ _ _ _ _ _ _ _) rfl 7 (by decide) (zh hts k0_222) (fun _ h9 => h9) rfl (by decide +kernel) rfl rfl (Nat.le_of_ble_eq_true rfl) dX11_land_44 (fun H locs hP hD hS => ?_)
    rw [zs_on_7] at hP hD
    have hP : va_P D vwCl (zW E u_1.2.1 u_1.2.2.1 (on.1, on.2.1, on.2.1) rw u_2 ft tr (va_up la on.2.2 u_1.2.2.2.2.2) mo) H := hP
    have hD : va_D A (zW E u_1.2.1 u_1.2.2.1 (on.1, on.2.1, on.2.1) rw u_2 ft tr (va_up la on.2.2 u_1.2.2.2.2.2) mo) := hD
    refine lv_aload_n hx hb0 dX11_land_47 rfl (lv_at hl 2 rfl) ?_
    refine lv_aload_n hx hb0 dX11_land_48 rfl (lv_at hl 0 rfl) ?_
    refine va_put (D := D) (ci := 10) (v := .ref (E.1 (13 + 11 * on.2.2))) (ty := .object "OldNews$Land") (C := RX11) (T := TX11) (N := 9) hx hb0 hts (zi iX11) tyX11 tyX11_ok nmX11 hown hK hP hD hS 0 (zg_on _ _ _ _ _ _ _ _ _ _) rfl 6 (by decide) (zh hts k0_221) (fun _ h9 => h9) rfl (by decide +kernel) rfl rfl (Nat.le_of_ble_eq_true rfl) dX11_land_49 (fun H locs hP hD hS => ?_)
    rw [zs_on_6] at hP hD
    have hP : va_P D vwCl (zW E u_1.2.1 u_1.2.2.1 (on.1, on.2.2, on.2.1) rw u_2 ft tr (va_up la on.2.2 u_1.2.2.2.2.2) mo) H := hP
    have hD : va_D A (zW E u_1.2.1 u_1.2.2.1 (on.1, on.2.2, on.2.1) rw u_2 ft tr (va_up la on.2.2 u_1.2.2.2.2.2) mo) := hD
    refine lv_aload_n hx hb0 dX11_land_52 rfl (lv_at hl 2 rfl) ?_
    refine va_get (D := D) (ci := 10) (v := .ref (E.1 (13 + 11 * on.2.2))) (C := RX11) (T := TX11) (N := 9) hx hb0 hts (zi iX11) hown hK hP 0 (zg_on _ _ _ _ _ _ _ _ _ _) rfl 6 (by decide) (zh hts k0_221) (fun _ h9 => h9) rfl dX11_land_53 ?_
    refine va_get (D := D) (ci := 3) (v := .int (u_1.2.2.2.2.2.1.1 6)) (C := RX4) (T := TX4) (N := 19) hx hb0 hts (zi iX4) hown hK hP (13 + 11 * on.2.2) (zg_L _ _ _ _ _ _ _ _ _ _ hj _) rfl 6 (by decide) (zh hts k0_118) (fun _ h9 => h9) rfl dX11_land_56 ?_
    obtain rfl := Option.some.inj hF
    refine W.widen (k := 8) (n := 24) (show _ ≤ 8 by omega) (show _ ≤ 24 by omega) ?_
    exact hend _ _ _ _ hP hD hS dX11_land_59
  · have hF := zit c_3 hF
    refine lv_ldc (own := RX11) (v := -1000100) hx hb0 hown (zh hts k2_91) dX11_land_23 ?_
    refine lv_aload_n hx hb0 dX11_land_25 rfl (lv_at hl 1 rfl) ?_
    refine va_get (D := D) (ci := 10) (v := .ref (E.1 5)) (C := RX11) (T := TX11) (N := 9) hx hb0 hts (zi iX11) hown hK hP 0 (zg_on _ _ _ _ _ _ _ _ _ _) rfl 1 (by decide) (zh hts k0_216) (fun _ h9 => h9) rfl dX11_land_26 ?_
    refine va_get (D := D) (ci := 5) (v := .int (u_2.1 2)) (C := RX6) (T := TX6) (N := 8) hx hb0 hts (zi iX6) hown hK hP 5 (zg_rd _ _ _ _ _ _ _ _ _ _) rfl 2 (by decide) (zh hts k0_59) (fun _ h9 => h9) rfl dX11_land_29 ?_
    refine lv_isub hx hb0 dX11_land_32 ?_
    obtain rfl := Option.some.inj hF
    refine W.widen (k := 8) (n := 24) (show _ ≤ 8 by omega) (show _ ≤ 24 by omega) ?_
    exact hend _ _ _ _ hP hD hS dX11_land_33
