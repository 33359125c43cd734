def fX4_sellAll_l4 (N : Nat) (L_10 : zLS) (x1_8 : Int32) : Nat → Int32 → Option Unit
  | 0, _ => none
  | n + 1, x3_9 =>
    if (L_10.1.1 7) ≤ x3_9 then
      some ()
    else
      some ()
def fX4_sellAll_l5 (N : Nat) (KL : List Nat) (kc : Nat → zKC) (a_6 : Nat) (x1_14 : Int32) : Nat → Int32 → zLS → Option zLS
  | 0, _, _ => none
  | n + 1, x3_15, L_16 =>
    if (L_16.1.1 7) ≤ x3_15 then
      some L_16
    else
      (fX4_hasUnsold N L_16 x1_14 x3_15).bind fun u_19 =>
      if u_19 = 0 then
        fX4_sellAll_l5 N KL kc a_6 x1_14 n (x3_15 + (1 : Int32)) L_16
      else
        if (kc a_6).1 = 0 then
          (fX0_sells N kc L_16 a_6 x3_15).bind fun u_22 =>
          if u_22 = 0 then
            fX4_sellAll_l5 N KL kc a_6 x1_14 n (x3_15 + (1 : Int32)) L_16
          else
            (fX4_sell N L_16 x1_14 x3_15).bind fun u_26 =>
            fX4_sellAll_l5 N KL kc a_6 x1_14 n (x3_15 + (1 : Int32)) u_26
        else if (kc a_6).1 = 1 then
          (fX1_sells N kc L_16 a_6 x3_15).bind fun u_28 =>
          if u_28 = 0 then
            fX4_sellAll_l5 N KL kc a_6 x1_14 n (x3_15 + (1 : Int32)) L_16
          else
            (fX4_sell N L_16 x1_14 x3_15).bind fun u_32 =>
            fX4_sellAll_l5 N KL kc a_6 x1_14 n (x3_15 + (1 : Int32)) u_32
        else if (kc a_6).1 = 4 then
          (fX5_sells N a_6 x3_15).bind fun u_34 =>
          if u_34 = 0 then
            fX4_sellAll_l5 N KL kc a_6 x1_14 n (x3_15 + (1 : Int32)) L_16
          else
            (fX4_sell N L_16 x1_14 x3_15).bind fun u_38 =>
            fX4_sellAll_l5 N KL kc a_6 x1_14 n (x3_15 + (1 : Int32)) u_38
        else if (kc a_6).1 = 7 then
          (fX8_sells N a_6 x3_15).bind fun u_40 =>
          if u_40 = 0 then
            fX4_sellAll_l5 N KL kc a_6 x1_14 n (x3_15 + (1 : Int32)) L_16
          else
            (fX4_sell N L_16 x1_14 x3_15).bind fun u_44 =>
            fX4_sellAll_l5 N KL kc a_6 x1_14 n (x3_15 + (1 : Int32)) u_44
        else if (kc a_6).1 = 9 then
          (fX10_sells N KL kc L_16 a_6 x3_15).bind fun u_46 =>
          if u_46 = 0 then
            fX4_sellAll_l5 N KL kc a_6 x1_14 n (x3_15 + (1 : Int32)) L_16
          else
            (fX4_sell N L_16 x1_14 x3_15).bind fun u_50 =>
            fX4_sellAll_l5 N KL kc a_6 x1_14 n (x3_15 + (1 : Int32)) u_50
        else none
def fX4_sellAll_l3 (N : Nat) (KL : List Nat) (kc : Nat → zKC) : Nat → Int32 → zLS → Option zLS
  | 0, _, _ => none
  | n + 1, x1_1, L_2 =>
    if (L_2.1.1 6) ≤ x1_1 then
      some L_2
    else
      (fX4_keeperAt N KL kc L_2 x1_1).bind fun u_5 =>
      match u_5 with
      | none =>
        (fX4_sellAll_l4 N L_2 x1_1 N (0 : Int32)).bind (fun _ =>
          fX4_sellAll_l3 N KL kc n (x1_1 + (1 : Int32)) L_2)
      | some a_6 =>
        if ¬ zkd KL kc a_6 then none else
        (fX4_sellAll_l5 N KL kc a_6 x1_1 N (0 : Int32) L_2).bind (fun u_53 =>
          fX4_sellAll_l3 N KL kc n (x1_1 + (1 : Int32)) u_53)
def fX4_sellAll (N : Nat) (KL : List Nat) (kc : Nat → zKC) (L : zLS) : Option zLS :=
  (fX4_sellAll_l3 N KL kc N (0 : Int32) L).bind (fun u_57 =>
    some u_57)
set_option maxHeartbeats 4000000 in
set_option maxRecDepth 100000 in
theorem qX4_sellAll (l : Launch) (D : va_G) (E : zE) (KL : List Nat) (kc : Nat → zKC) (on : zNS) (rw rd ft tr : zOS) (la : Nat → zLS) (mo : zMS) (j : Nat) (hj : j < 5) (L : zLS) (N sz : Nat)  (out : zLS) (hF : fX4_sellAll N KL kc L = some out) : zCv l yX4_sellAll zwX4_sellAll ({ frames := 4, cells := 0, slots := 0, locals := 91 }) [.ref (E.1 (13 + 11 * j))] D E sz (zW E KL kc on rw rd ft tr (va_up la j L) mo) (zW E KL kc on rw rd ft tr (va_up la j out) mo) 0 0 := by
  refine zent_v (cc := cX4_sellAll) (nL := 4) (by decide) rfl (Nat.le_of_ble_eq_true rfl) ?_
  intro p e s m args below meth c Q A hx hb hml hown hts hA hK hP hD hS hE ls hl hend
  have hown : s.vm.findClass RX4 = some m.cls := hown
  have hl : lv_has ls 4 [(0, .ref (E.1 (13 + 11 * j)))] := hl
  rw [fX4_sellAll] at hF
  refine lv_iconst (v := 0) hx hb dX4_sellAll_0 (by decide) ?_
  refine lv_istore_n (lv' := [(1, .int (0 : Int32)), (0, .ref (E.1 (13 + 11 * j)))]) hx hb dX4_sellAll_1 rfl hl (by decide) rfl (fun ls hl => ?_)
  obtain ⟨o_55, ho_55, hF⟩ := zbd hF
  have kx_3_0 : ∀ (L_56 : zLS), L_56 = o_55 → ∀ (H : Heap) (locs : List Loc) (ls : Array Slot), va_P D vwCl (zW E KL kc on rw rd ft tr (va_up la j L_56) mo) H → va_D A (zW E KL kc on rw rd ft tr (va_up la j L_56) mo) → va_S A s.heap H locs → lv_has ls 4 [] → W p l e ({ frames := 4, cells := 0, slots := 0, locals := 91 } : Room) s m args below meth c H locs 0 0 Q (F0 m 66 ls []) := by
    intro L_56 ho H locs ls hP hD hS hl
    subst ho
    obtain rfl := Option.some.inj hF
    exact hend _ _ _ _ hP hD hS dX4_sellAll_66
  have lp_3 : ∀ (n : Nat) (x1_1 : Int32) (L_2 : zLS) (o : zLS), fX4_sellAll_l3 N KL kc n x1_1 L_2 = some o → (∀ (L_56 : zLS), L_56 = o → ∀ (H : Heap) (locs : List Loc) (ls : Array Slot), va_P D vwCl (zW E KL kc on rw rd ft tr (va_up la j L_56) mo) H → va_D A (zW E KL kc on rw rd ft tr (va_up la j L_56) mo) → va_S A s.heap H locs → lv_has ls 4 [] → W p l e ({ frames := 4, cells := 0, slots := 0, locals := 91 } : Room) s m args below meth c H locs 0 0 Q (F0 m 66 ls [])) → ∀ (H : Heap) (locs : List Loc) (ls : Array Slot), va_P D vwCl (zW E KL kc on rw rd ft tr (va_up la j L_2) mo) H → va_D A (zW E KL kc on rw rd ft tr (va_up la j L_2) mo) → va_S A s.heap H locs → lv_has ls 4 [(0, .ref (E.1 (13 + 11 * j))), (1, .int x1_1)] → W p l e ({ frames := 4, cells := 0, slots := 0, locals := 91 } : Room) s m args below meth c H locs 0 0 Q (F0 m 2 ls []) := by
    intro n
    induction n with
    | zero =>
      intro x1_1 L_2 o hF
      exact znone hF
    | succ n ih =>
      intro x1_1 L_2 o hF kx_3_0 H locs ls hP hD hS hl
      rw [fX4_sellAll_l3] at hF
      refine lv_iload_n hx hb dX4_sellAll_2 rfl (lv_at hl 1 rfl) ?_
      refine lv_aload_n hx hb dX4_sellAll_3 rfl (lv_at hl 0 rfl) ?_
      refine va_get (D := D) (ci := 3) (v := .int (L_2.1.1 6)) (C := RX4) (T := TX4) (N := 19) hx hb hts (zi iX4) hown hK hP (13 + 11 * j) (zg_L _ _ _ _ _ _ _ _ _ _ hj _) rfl 6 (by decide) (zh hts k0_116) (fun _ h9 => h9) rfl dX4_sellAll_4 ?_
      refine lv_icmp_ge (tgt := 66) hx hb dX4_sellAll_7 (by decide) (fun c_3 => ?_) (fun c_3 => ?_)
      · have hF := zit c_3 hF
        exact kx_3_0 L_2 (Option.some.inj hF) _ _ _ hP hD hS (lv_sub hl [] rfl)
      · have hF := zif c_3 hF
        refine lv_aload_n hx hb dX4_sellAll_10 rfl (lv_at hl 0 rfl) ?_
        refine lv_iload_n hx hb dX4_sellAll_11 rfl (lv_at hl 1 rfl) ?_
        have hrv_4 := (va_recv hK hP (ci := 3) (q0 := 13 + 11 * j) rfl (zg_L _ _ _ _ _ _ _ _ _ _ hj _))
        obtain ⟨u_5, hu_5, hF⟩ := zbd hF
        refine zcall_q (va_runV (As := [.int x1_1]) (rest := []) ⟨hx, hb, hml, hown, hts⟩ (qX4_keeperAt l D E KL kc on rw rd ft tr la mo j hj L_2 N _ x1_1 _ hu_5) (cwV 1 hts (zgV k2_83 k2_84 k2_85 k0_6 k2_86) rfl rfl rfl (by decide +kernel) ⟨Nat.le_of_ble_eq_true rfl, Nat.le_of_ble_eq_true rfl⟩) (zpv hE hS hA hK hP hD hrv_4) rfl rfl hl.1 rfl (lv_room (Nat.le_of_ble_eq_true rfl)) dX4_sellAll_12 ⟨Nat.zero_le _, Nat.zero_le _⟩) hD hS hA (fun H locs hP hD hS => ?_)
        cases u_5 with
        | none =>
          refine lv_astore_nN (lv' := [(2, .null), (0, .ref (E.1 (13 + 11 * j))), (1, .int x1_1)]) hx hb dX4_sellAll_15 rfl hl (by decide) rfl (fun ls hl => ?_)
          refine lv_iconst (v := 0) hx hb dX4_sellAll_16 (by decide) ?_
          refine lv_istore_n (lv' := [(3, .int (0 : Int32)), (2, .null), (0, .ref (E.1 (13 + 11 * j))), (1, .int x1_1)]) hx hb dX4_sellAll_17 rfl hl (by decide) rfl (fun ls hl => ?_)
          obtain ⟨o_12, ho_12, hF⟩ := zbd hF
          have kx_4_0 : () = o_12 → ∀ (H : Heap) (locs : List Loc) (ls : Array Slot), va_P D vwCl (zW E KL kc on rw rd ft tr (va_up la j L_2) mo) H → va_D A (zW E KL kc on rw rd ft tr (va_up la j L_2) mo) → va_S A s.heap H locs → lv_has ls 4 [(0, .ref (E.1 (13 + 11 * j))), (1, .int x1_1)] → W p l e ({ frames := 4, cells := 0, slots := 0, locals := 91 } : Room) s m args below meth c H locs 0 0 Q (F0 m 60 ls []) := by
            intro ho H locs ls hP hD hS hl
            subst ho
            refine lv_iinc (v := x1_1 + (1 : Int32)) (lv' := [(1, .int (x1_1 + (1 : Int32))), (0, .ref (E.1 (13 + 11 * j)))]) hx hb dX4_sellAll_60 hl (k := 1) rfl rfl (by decide) rfl (fun ls hl => ?_)
            refine lv_goto (tgt := 2) hx hb dX4_sellAll_63 (by decide) ?_
            exact ih (x1_1 + (1 : Int32)) L_2 _ hF kx_3_0 _ _ _ hP hD hS (lv_sub hl [1, 0] rfl)
          have lp_4 : ∀ (L_10 : zLS) (x1_8 : Int32) (n : Nat) (x3_9 : Int32) (o : Unit), fX4_sellAll_l4 N L_10 x1_8 n x3_9 = some o → (() = o → ∀ (H : Heap) (locs : List Loc) (ls : Array Slot), va_P D vwCl (zW E KL kc on rw rd ft tr (va_up la j L_10) mo) H → va_D A (zW E KL kc on rw rd ft tr (va_up la j L_10) mo) → va_S A s.heap H locs → lv_has ls 4 [(0, .ref (E.1 (13 + 11 * j))), (1, .int x1_8)] → W p l e ({ frames := 4, cells := 0, slots := 0, locals := 91 } : Room) s m args below meth c H locs 0 0 Q (F0 m 60 ls [])) → ∀ (H : Heap) (locs : List Loc) (ls : Array Slot), va_P D vwCl (zW E KL kc on rw rd ft tr (va_up la j L_10) mo) H → va_D A (zW E KL kc on rw rd ft tr (va_up la j L_10) mo) → va_S A s.heap H locs → lv_has ls 4 [(0, .ref (E.1 (13 + 11 * j))), (1, .int x1_8), (2, .null), (3, .int x3_9)] → W p l e ({ frames := 4, cells := 0, slots := 0, locals := 91 } : Room) s m args below meth c H locs 0 0 Q (F0 m 18 ls []) := by
            intro L_10 x1_8 n
            induction n with
            | zero =>
              intro x3_9 o hF
              exact znone hF
            | succ n ih =>
              intro x3_9 o hF kx_4_0 H locs ls hP hD hS hl
              rw [fX4_sellAll_l4] at hF
              refine lv_iload_n hx hb dX4_sellAll_18 rfl (lv_at hl 3 rfl) ?_
              refine lv_aload_n hx hb dX4_sellAll_19 rfl (lv_at hl 0 rfl) ?_
              refine va_get (D := D) (ci := 3) (v := .int (L_10.1.1 7)) (C := RX4) (T := TX4) (N := 19) hx hb hts (zi iX4) hown hK hP (13 + 11 * j) (zg_L _ _ _ _ _ _ _ _ _ _ hj _) rfl 7 (by decide) (zh hts k0_121) (fun _ h9 => h9) rfl dX4_sellAll_20 ?_
              refine lv_icmp_ge (tgt := 60) hx hb dX4_sellAll_23 (by decide) (fun c_11 => ?_) (fun c_11 => ?_)
              · have hF := zit c_11 hF
                exact kx_4_0 (Option.some.inj hF) _ _ _ hP hD hS (lv_sub hl [0, 1] rfl)
              · have hF := zif c_11 hF
                refine lv_aload_nN hx hb dX4_sellAll_26 rfl (lv_at hl 2 rfl) ?_
                refine lv_ifnullN (tgt := 60) hx hb dX4_sellAll_27 (by decide) ?_
                exact kx_4_0 (Option.some.inj hF) _ _ _ hP hD hS (lv_sub hl [0, 1] rfl)
          exact lp_4 L_2 x1_1 N (0 : Int32) _ ho_12 kx_4_0 _ _ _ hP hD hS (lv_sub hl [2, 3, 1, 0] rfl)
        | some a_6 =>
          obtain ⟨k_7, hF⟩ := zgd hF
          have k_7 := Decidable.not_not.mp k_7
          have km_6 := k_7.1
          have k_7 := k_7.2
          refine lv_astore_n (lv' := [(2, .ref a_6), (0, .ref (E.1 (13 + 11 * j))), (1, .int x1_1)]) hx hb dX4_sellAll_15 rfl hl (by decide) rfl (fun ls hl => ?_)
          refine lv_iconst (v := 0) hx hb dX4_sellAll_16 (by decide) ?_
          refine lv_istore_n (lv' := [(3, .int (0 : Int32)), (2, .ref a_6), (0, .ref (E.1 (13 + 11 * j))), (1, .int x1_1)]) hx hb dX4_sellAll_17 rfl hl (by decide) rfl (fun ls hl => ?_)
          obtain ⟨o_51, ho_51, hF⟩ := zbd hF
          have kx_5_0 : ∀ (L_52 : zLS), L_52 = o_51 → ∀ (H : Heap) (locs : List Loc) (ls : Array Slot), va_P D vwCl (zW E KL kc on rw rd ft tr (va_up la j L_52) mo) H → va_D A (zW E KL kc on rw rd ft tr (va_up la j L_52) mo) → va_S A s.heap H locs → lv_has ls 4 [(0, .ref (E.1 (13 + 11 * j))), (1, .int x1_1)] → W p l e ({ frames := 4, cells := 0, slots := 0, locals := 91 } : Room) s m args below meth c H locs 0 0 Q (F0 m 60 ls []) := by
            intro L_52 ho H locs ls hP hD hS hl
            subst ho
            refine lv_iinc (v := x1_1 + (1 : Int32)) (lv' := [(1, .int (x1_1 + (1 : Int32))), (0, .ref (E.1 (13 + 11 * j)))]) hx hb dX4_sellAll_60 hl (k := 1) rfl rfl (by decide) rfl (fun ls hl => ?_)
            refine lv_goto (tgt := 2) hx hb dX4_sellAll_63 (by decide) ?_
            exact ih (x1_1 + (1 : Int32)) L_52 _ hF kx_3_0 _ _ _ hP hD hS (lv_sub hl [1, 0] rfl)
          have lp_5 : ∀ (x1_14 : Int32) (n : Nat) (x3_15 : Int32) (L_16 : zLS) (o : zLS), fX4_sellAll_l5 N KL kc a_6 x1_14 n x3_15 L_16 = some o → (∀ (L_52 : zLS), L_52 = o → ∀ (H : Heap) (locs : List Loc) (ls : Array Slot), va_P D vwCl (zW E KL kc on rw rd ft tr (va_up la j L_52) mo) H → va_D A (zW E KL kc on rw rd ft tr (va_up la j L_52) mo) → va_S A s.heap H locs → lv_has ls 4 [(0, .ref (E.1 (13 + 11 * j))), (1, .int x1_14)] → W p l e ({ frames := 4, cells := 0, slots := 0, locals := 91 } : Room) s m args below meth c H locs 0 0 Q (F0 m 60 ls [])) → ∀ (H : Heap) (locs : List Loc) (ls : Array Slot), va_P D vwCl (zW E KL kc on rw rd ft tr (va_up la j L_16) mo) H → va_D A (zW E KL kc on rw rd ft tr (va_up la j L_16) mo) → va_S A s.heap H locs → lv_has ls 4 [(0, .ref (E.1 (13 + 11 * j))), (1, .int x1_14), (2, .ref a_6), (3, .int x3_15)] → W p l e ({ frames := 4, cells := 0, slots := 0, locals := 91 } : Room) s m args below meth c H locs 0 0 Q (F0 m 18 ls []) := by
            intro x1_14 n
            induction n with
            | zero =>
              intro x3_15 L_16 o hF
              exact znone hF
            | succ n ih =>
              intro x3_15 L_16 o hF kx_5_0 H locs ls hP hD hS hl
              rw [fX4_sellAll_l5] at hF
              refine lv_iload_n hx hb dX4_sellAll_18 rfl (lv_at hl 3 rfl) ?_
              refine lv_aload_n hx hb dX4_sellAll_19 rfl (lv_at hl 0 rfl) ?_
              refine va_get (D := D) (ci := 3) (v := .int (L_16.1.1 7)) (C := RX4) (T := TX4) (N := 19) hx hb hts (zi iX4) hown hK hP (13 + 11 * j) (zg_L _ _ _ _ _ _ _ _ _ _ hj _) rfl 7 (by decide) (zh hts k0_121) (fun _ h9 => h9) rfl dX4_sellAll_20 ?_
              refine lv_icmp_ge (tgt := 60) hx hb dX4_sellAll_23 (by decide) (fun c_17 => ?_) (fun c_17 => ?_)
              · have hF := zit c_17 hF
                exact kx_5_0 L_16 (Option.some.inj hF) _ _ _ hP hD hS (lv_sub hl [0, 1] rfl)
              · have hF := zif c_17 hF
                refine lv_aload_n hx hb dX4_sellAll_26 rfl (lv_at hl 2 rfl) ?_
                refine lv_ifnull hx hb dX4_sellAll_27 ?_
                refine lv_aload_n hx hb dX4_sellAll_30 rfl (lv_at hl 0 rfl) ?_
                refine lv_iload_n hx hb dX4_sellAll_31 rfl (lv_at hl 1 rfl) ?_
                refine lv_iload_n hx hb dX4_sellAll_32 rfl (lv_at hl 3 rfl) ?_
                have hrv_18 := (va_recv hK hP (ci := 3) (q0 := 13 + 11 * j) rfl (zg_L _ _ _ _ _ _ _ _ _ _ hj _))
                obtain ⟨u_19, hu_19, hF⟩ := zbd hF
                refine zcall_i (va_runV (As := [.int x1_14, .int x3_15]) (rest := []) ⟨hx, hb, hml, hown, hts⟩ (qX4_hasUnsold l D E KL kc on rw rd ft tr la mo j hj L_16 N _ x1_14 x3_15 _ hu_19) (cwV 2 hts (zgV k2_129 k2_130 k2_131 k0_6 k2_132) rfl rfl rfl (by decide +kernel) ⟨Nat.le_of_ble_eq_true rfl, Nat.le_of_ble_eq_true rfl⟩) (zpv hE hS hA hK hP hD hrv_18) rfl rfl hl.1 rfl (lv_room (Nat.le_of_ble_eq_true rfl)) dX4_sellAll_33 ⟨Nat.zero_le _, Nat.zero_le _⟩) hD hS hA (fun H locs hP hD hS => ?_)
                refine lv_if_eq (tgt := 54) hx hb dX4_sellAll_36 (by decide) (fun c_20 => ?_) (fun c_20 => ?_)
                · have hF := zit c_20 hF
                  refine lv_iinc (v := x3_15 + (1 : Int32)) (lv' := [(3, .int (x3_15 + (1 : Int32))), (0, .ref (E.1 (13 + 11 * j))), (1, .int x1_14), (2, .ref a_6)]) hx hb dX4_sellAll_54 hl (k := 3) rfl rfl (by decide) rfl (fun ls hl => ?_)
                  refine lv_goto (tgt := 18) hx hb dX4_sellAll_57 (by decide) ?_
                  exact ih (x3_15 + (1 : Int32)) L_16 _ hF kx_5_0 _ _ _ hP hD hS (lv_sub hl [1, 2, 3, 0] rfl)
                · have hF := zif c_20 hF
                  refine lv_aload_n hx hb dX4_sellAll_39 rfl (lv_at hl 2 rfl) ?_
                  refine lv_aload_n hx hb dX4_sellAll_40 rfl (lv_at hl 0 rfl) ?_
                  refine lv_iload_n hx hb dX4_sellAll_41 rfl (lv_at hl 3 rfl) ?_
                  by_cases kk_21 : (kc a_6).1 = 0
                  · have hF := zit kk_21 hF
                    obtain ⟨u_22, hu_22, hF⟩ := zbd hF
                    obtain ⟨q_23, hq_23⟩ := zg_K E KL kc on rw rd ft tr (va_up la j L_16) mo km_6 kk_21
                    refine zcall_i (va_runU (As := [.ref (E.1 (13 + 11 * j)), .int x3_15]) (rest := []) ⟨hx, hb, hml, hown, hts⟩ (qX0_sells l D E KL kc on rw rd ft tr la mo j hj L_16 a_6 km_6 (by omega) N _ x3_15 _ hu_22) (va_cwA 2 hts (zgU k2_137 k2_139 k2_140 k2_141 k0_17 k2_142) rfl rfl rfl (hE.2.2.2.2.2.2.2.2.2.1) (by decide +kernel) ⟨Nat.le_of_ble_eq_true rfl, Nat.le_of_ble_eq_true rfl⟩) (zpv hE hS hA hK hP hD (va_recv hK hP (ci := 0) (q0 := q_23) rfl hq_23)) rfl rfl hl.1 rfl (lv_room (Nat.le_of_ble_eq_true rfl)) dX4_sellAll_42 ⟨Nat.zero_le _, Nat.zero_le _⟩) hD hS hA (fun H locs hP hD hS => ?_)
                    refine lv_if_eq (tgt := 54) hx hb dX4_sellAll_45 (by decide) (fun c_24 => ?_) (fun c_24 => ?_)
                    · have hF := zit c_24 hF
                      refine lv_iinc (v := x3_15 + (1 : Int32)) (lv' := [(3, .int (x3_15 + (1 : Int32))), (0, .ref (E.1 (13 + 11 * j))), (1, .int x1_14), (2, .ref a_6)]) hx hb dX4_sellAll_54 hl (k := 3) rfl rfl (by decide) rfl (fun ls hl => ?_)
                      refine lv_goto (tgt := 18) hx hb dX4_sellAll_57 (by decide) ?_
                      exact ih (x3_15 + (1 : Int32)) L_16 _ hF kx_5_0 _ _ _ hP hD hS (lv_sub hl [1, 2, 3, 0] rfl)
                    · have hF := zif c_24 hF
                      refine lv_aload_n hx hb dX4_sellAll_48 rfl (lv_at hl 0 rfl) ?_
                      refine lv_iload_n hx hb dX4_sellAll_49 rfl (lv_at hl 1 rfl) ?_
                      refine lv_iload_n hx hb dX4_sellAll_50 rfl (lv_at hl 3 rfl) ?_
                      have hrv_25 := (va_recv hK hP (ci := 3) (q0 := 13 + 11 * j) rfl (zg_L _ _ _ _ _ _ _ _ _ _ hj _))
                      obtain ⟨u_26, hu_26, hF⟩ := zbd hF
                      refine zcall_v (va_runV (As := [.int x1_14, .int x3_15]) (rest := []) ⟨hx, hb, hml, hown, hts⟩ (qX4_sell l D E KL kc on rw rd ft tr la mo j hj L_16 N _ x1_14 x3_15 _ hu_26) (cwV 2 hts (zgV k2_165 k2_167 kp1_4 k0_6 k2_168) rfl rfl rfl (by decide +kernel) ⟨Nat.le_of_ble_eq_true rfl, Nat.le_of_ble_eq_true rfl⟩) (zpv hE hS hA hK hP hD hrv_25) rfl rfl hl.1 rfl (lv_room (Nat.le_of_ble_eq_true rfl)) dX4_sellAll_51 ⟨Nat.zero_le _, Nat.zero_le _⟩) hD hS hA (fun H locs hP hD hS => ?_)
                      refine lv_iinc (v := x3_15 + (1 : Int32)) (lv' := [(3, .int (x3_15 + (1 : Int32))), (0, .ref (E.1 (13 + 11 * j))), (1, .int x1_14), (2, .ref a_6)]) hx hb dX4_sellAll_54 hl (k := 3) rfl rfl (by decide) rfl (fun ls hl => ?_)
                      refine lv_goto (tgt := 18) hx hb dX4_sellAll_57 (by decide) ?_
                      exact ih (x3_15 + (1 : Int32)) u_26 _ hF kx_5_0 _ _ _ hP hD hS (lv_sub hl [1, 2, 3, 0] rfl)
                  · have hF := zif kk_21 hF
                    by_cases kk_27 : (kc a_6).1 = 1
                    · have hF := zit kk_27 hF
                      obtain ⟨u_28, hu_28, hF⟩ := zbd hF
                      obtain ⟨q_29, hq_29⟩ := zg_K E KL kc on rw rd ft tr (va_up la j L_16) mo km_6 kk_27
                      refine zcall_i (va_runU (As := [.ref (E.1 (13 + 11 * j)), .int x3_15]) (rest := []) ⟨hx, hb, hml, hown, hts⟩ (qX1_sells l D E KL kc on rw rd ft tr la mo j hj L_16 a_6 km_6 (by omega) N _ x3_15 _ hu_28) (va_cwA 2 hts (zgU k2_137 k2_139 k2_143 k2_144 k0_19 k2_145) rfl rfl rfl (hE.2.2.2.2.2.2.2.2.2.1) (by decide +kernel) ⟨Nat.le_of_ble_eq_true rfl, Nat.le_of_ble_eq_true rfl⟩) (zpv hE hS hA hK hP hD (va_recv hK hP (ci := 1) (q0 := q_29) rfl hq_29)) rfl rfl hl.1 rfl (lv_room (Nat.le_of_ble_eq_true rfl)) dX4_sellAll_42 ⟨Nat.zero_le _, Nat.zero_le _⟩) hD hS hA (fun H locs hP hD hS => ?_)
                      refine lv_if_eq (tgt := 54) hx hb dX4_sellAll_45 (by decide) (fun c_30 => ?_) (fun c_30 => ?_)
                      · have hF := zit c_30 hF
                        refine lv_iinc (v := x3_15 + (1 : Int32)) (lv' := [(3, .int (x3_15 + (1 : Int32))), (0, .ref (E.1 (13 + 11 * j))), (1, .int x1_14), (2, .ref a_6)]) hx hb dX4_sellAll_54 hl (k := 3) rfl rfl (by decide) rfl (fun ls hl => ?_)
                        refine lv_goto (tgt := 18) hx hb dX4_sellAll_57 (by decide) ?_
                        exact ih (x3_15 + (1 : Int32)) L_16 _ hF kx_5_0 _ _ _ hP hD hS (lv_sub hl [1, 2, 3, 0] rfl)
                      · have hF := zif c_30 hF
                        refine lv_aload_n hx hb dX4_sellAll_48 rfl (lv_at hl 0 rfl) ?_
                        refine lv_iload_n hx hb dX4_sellAll_49 rfl (lv_at hl 1 rfl) ?_
                        refine lv_iload_n hx hb dX4_sellAll_50 rfl (lv_at hl 3 rfl) ?_
                        have hrv_31 := (va_recv hK hP (ci := 3) (q0 := 13 + 11 * j) rfl (zg_L _ _ _ _ _ _ _ _ _ _ hj _))
                        obtain ⟨u_32, hu_32, hF⟩ := zbd hF
                        refine zcall_v (va_runV (As := [.int x1_14, .int x3_15]) (rest := []) ⟨hx, hb, hml, hown, hts⟩ (qX4_sell l D E KL kc on rw rd ft tr la mo j hj L_16 N _ x1_14 x3_15 _ hu_32) (cwV 2 hts (zgV k2_165 k2_167 kp1_4 k0_6 k2_168) rfl rfl rfl (by decide +kernel) ⟨Nat.le_of_ble_eq_true rfl, Nat.le_of_ble_eq_true rfl⟩) (zpv hE hS hA hK hP hD hrv_31) rfl rfl hl.1 rfl (lv_room (Nat.le_of_ble_eq_true rfl)) dX4_sellAll_51 ⟨Nat.zero_le _, Nat.zero_le _⟩) hD hS hA (fun H locs hP hD hS => ?_)
                        refine lv_iinc (v := x3_15 + (1 : Int32)) (lv' := [(3, .int (x3_15 + (1 : Int32))), (0, .ref (E.1 (13 + 11 * j))), (1, .int x1_14), (2, .ref a_6)]) hx hb dX4_sellAll_54 hl (k := 3) rfl rfl (by decide) rfl (fun ls hl => ?_)
                        refine lv_goto (tgt := 18) hx hb dX4_sellAll_57 (by decide) ?_
                        exact ih (x3_15 + (1 : Int32)) u_32 _ hF kx_5_0 _ _ _ hP hD hS (lv_sub hl [1, 2, 3, 0] rfl)
                    · have hF := zif kk_27 hF
                      by_cases kk_33 : (kc a_6).1 = 4
                      · have hF := zit kk_33 hF
                        obtain ⟨u_34, hu_34, hF⟩ := zbd hF
                        obtain ⟨q_35, hq_35⟩ := zg_K E KL kc on rw rd ft tr (va_up la j L_16) mo km_6 kk_33
                        refine zcall_i (va_runU (As := [.ref (E.1 (13 + 11 * j)), .int x3_15]) (rest := []) ⟨hx, hb, hml, hown, hts⟩ (qX5_sells l D E KL kc on rw rd ft tr la mo j hj L_16 a_6 km_6 (by omega) N _ x3_15 _ hu_34) (va_cwA 2 hts (zgU k2_137 k2_139 k2_148 k2_149 k0_16 k2_150) rfl rfl rfl (hE.2.2.2.2.2.2.2.2.2.1) (by decide +kernel) ⟨Nat.le_of_ble_eq_true rfl, Nat.le_of_ble_eq_true rfl⟩) (zpv hE hS hA hK hP hD (va_recv hK hP (ci := 4) (q0 := q_35) rfl hq_35)) rfl rfl hl.1 rfl (lv_room (Nat.le_of_ble_eq_true rfl)) dX4_sellAll_42 ⟨Nat.zero_le _, Nat.zero_le _⟩) hD hS hA (fun H locs hP hD hS => ?_)
                        refine lv_if_eq (tgt := 54) hx hb dX4_sellAll_45 (by decide) (fun c_36 => ?_) (fun c_36 => ?_)
                        · have hF := zit c_36 hF
                          refine lv_iinc (v := x3_15 + (1 : Int32)) (lv' := [(3, .int (x3_15 + (1 : Int32))), (0, .ref (E.1 (13 + 11 * j))), (1, .int x1_14), (2, .ref a_6)]) hx hb dX4_sellAll_54 hl (k := 3) rfl rfl (by decide) rfl (fun ls hl => ?_)
                          refine lv_goto (tgt := 18) hx hb dX4_sellAll_57 (by decide) ?_
                          exact ih (x3_15 + (1 : Int32)) L_16 _ hF kx_5_0 _ _ _ hP hD hS (lv_sub hl [1, 2, 3, 0] rfl)
                        · have hF := zif c_36 hF
                          refine lv_aload_n hx hb dX4_sellAll_48 rfl (lv_at hl 0 rfl) ?_
                          refine lv_iload_n hx hb dX4_sellAll_49 rfl (lv_at hl 1 rfl) ?_
                          refine lv_iload_n hx hb dX4_sellAll_50 rfl (lv_at hl 3 rfl) ?_
                          have hrv_37 := (va_recv hK hP (ci := 3) (q0 := 13 + 11 * j) rfl (zg_L _ _ _ _ _ _ _ _ _ _ hj _))
                          obtain ⟨u_38, hu_38, hF⟩ := zbd hF
                          refine zcall_v (va_runV (As := [.int x1_14, .int x3_15]) (rest := []) ⟨hx, hb, hml, hown, hts⟩ (qX4_sell l D E KL kc on rw rd ft tr la mo j hj L_16 N _ x1_14 x3_15 _ hu_38) (cwV 2 hts (zgV k2_165 k2_167 kp1_4 k0_6 k2_168) rfl rfl rfl (by decide +kernel) ⟨Nat.le_of_ble_eq_true rfl, Nat.le_of_ble_eq_true rfl⟩) (zpv hE hS hA hK hP hD hrv_37) rfl rfl hl.1 rfl (lv_room (Nat.le_of_ble_eq_true rfl)) dX4_sellAll_51 ⟨Nat.zero_le _, Nat.zero_le _⟩) hD hS hA (fun H locs hP hD hS => ?_)
                          refine lv_iinc (v := x3_15 + (1 : Int32)) (lv' := [(3, .int (x3_15 + (1 : Int32))), (0, .ref (E.1 (13 + 11 * j))), (1, .int x1_14), (2, .ref a_6)]) hx hb dX4_sellAll_54 hl (k := 3) rfl rfl (by decide) rfl (fun ls hl => ?_)
                          refine lv_goto (tgt := 18) hx hb dX4_sellAll_57 (by decide) ?_
                          exact ih (x3_15 + (1 : Int32)) u_38 _ hF kx_5_0 _ _ _ hP hD hS (lv_sub hl [1, 2, 3, 0] rfl)
                      · have hF := zif kk_33 hF
                        by_cases kk_39 : (kc a_6).1 = 7
                        · have hF := zit kk_39 hF
                          obtain ⟨u_40, hu_40, hF⟩ := zbd hF
                          obtain ⟨q_41, hq_41⟩ := zg_K E KL kc on rw rd ft tr (va_up la j L_16) mo km_6 kk_39
                          refine zcall_i (va_runU (As := [.ref (E.1 (13 + 11 * j)), .int x3_15]) (rest := []) ⟨hx, hb, hml, hown, hts⟩ (qX8_sells l D E KL kc on rw rd ft tr la mo j hj L_16 a_6 km_6 (by omega) N _ x3_15 _ hu_40) (va_cwA 2 hts (zgU k2_137 k2_139 k2_151 k2_152 k0_20 k2_153) rfl rfl rfl (hE.2.2.2.2.2.2.2.2.2.1) (by decide +kernel) ⟨Nat.le_of_ble_eq_true rfl, Nat.le_of_ble_eq_true rfl⟩) (zpv hE hS hA hK hP hD (va_recv hK hP (ci := 7) (q0 := q_41) rfl hq_41)) rfl rfl hl.1 rfl (lv_room (Nat.le_of_ble_eq_true rfl)) dX4_sellAll_42 ⟨Nat.zero_le _, Nat.zero_le _⟩) hD hS hA (fun H locs hP hD hS => ?_)
                          refine lv_if_eq (tgt := 54) hx hb dX4_sellAll_45 (by decide) (fun c_42 => ?_) (fun c_42 => ?_)
                          · have hF := zit c_42 hF
                            refine lv_iinc (v := x3_15 + (1 : Int32)) (lv' := [(3, .int (x3_15 + (1 : Int32))), (0, .ref (E.1 (13 + 11 * j))), (1, .int x1_14), (2, .ref a_6)]) hx hb dX4_sellAll_54 hl (k := 3) rfl rfl (by decide) rfl (fun ls hl => ?_)
                            refine lv_goto (tgt := 18) hx hb dX4_sellAll_57 (by decide) ?_
                            exact ih (x3_15 + (1 : Int32)) L_16 _ hF kx_5_0 _ _ _ hP hD hS (lv_sub hl [1, 2, 3, 0] rfl)
                          · have hF := zif c_42 hF
                            refine lv_aload_n hx hb dX4_sellAll_48 rfl (lv_at hl 0 rfl) ?_
                            refine lv_iload_n hx hb dX4_sellAll_49 rfl (lv_at hl 1 rfl) ?_
                            refine lv_iload_n hx hb dX4_sellAll_50 rfl (lv_at hl 3 rfl) ?_
                            have hrv_43 := (va_recv hK hP (ci := 3) (q0 := 13 + 11 * j) rfl (zg_L _ _ _ _ _ _ _ _ _ _ hj _))
                            obtain ⟨u_44, hu_44, hF⟩ := zbd hF
                            refine zcall_v (va_runV (As := [.int x1_14, .int x3_15]) (rest := []) ⟨hx, hb, hml, hown, hts⟩ (qX4_sell l D E KL kc on rw rd ft tr la mo j hj L_16 N _ x1_14 x3_15 _ hu_44) (cwV 2 hts (zgV k2_165 k2_167 kp1_4 k0_6 k2_168) rfl rfl rfl (by decide +kernel) ⟨Nat.le_of_ble_eq_true rfl, Nat.le_of_ble_eq_true rfl⟩) (zpv hE hS hA hK hP hD hrv_43) rfl rfl hl.1 rfl (lv_room (Nat.le_of_ble_eq_true rfl)) dX4_sellAll_51 ⟨Nat.zero_le _, Nat.zero_le _⟩) hD hS hA (fun H locs hP hD hS => ?_)
                            refine lv_iinc (v := x3_15 + (1 : Int32)) (lv' := [(3, .int (x3_15 + (1 : Int32))), (0, .ref (E.1 (13 + 11 * j))), (1, .int x1_14), (2, .ref a_6)]) hx hb dX4_sellAll_54 hl (k := 3) rfl rfl (by decide) rfl (fun ls hl => ?_)
                            refine lv_goto (tgt := 18) hx hb dX4_sellAll_57 (by decide) ?_
                            exact ih (x3_15 + (1 : Int32)) u_44 _ hF kx_5_0 _ _ _ hP hD hS (lv_sub hl [1, 2, 3, 0] rfl)
                        · have hF := zif kk_39 hF
                          by_cases kk_45 : (kc a_6).1 = 9
                          · have hF := zit kk_45 hF
                            obtain ⟨u_46, hu_46, hF⟩ := zbd hF
                            obtain ⟨q_47, hq_47⟩ := zg_K E KL kc on rw rd ft tr (va_up la j L_16) mo km_6 kk_45
                            refine zcall_i (va_runU (As := [.ref (E.1 (13 + 11 * j)), .int x3_15]) (rest := []) ⟨hx, hb, hml, hown, hts⟩ (qX10_sells l D E KL kc on rw rd ft tr la mo j hj L_16 a_6 km_6 (by omega) N _ x3_15 _ hu_46) (va_cwA 2 hts (zgU k2_137 k2_139 k2_154 k2_155 k0_18 k2_156) rfl rfl rfl (hE.2.2.2.2.2.2.2.2.2.1) (by decide +kernel) ⟨Nat.le_of_ble_eq_true rfl, Nat.le_of_ble_eq_true rfl⟩) (zpv hE hS hA hK hP hD (va_recv hK hP (ci := 9) (q0 := q_47) rfl hq_47)) rfl rfl hl.1 rfl (lv_room (Nat.le_of_ble_eq_true rfl)) dX4_sellAll_42 ⟨Nat.zero_le _, Nat.zero_le _⟩) hD hS hA (fun H locs hP hD hS => ?_)
                            refine lv_if_eq (tgt := 54) hx hb dX4_sellAll_45 (by decide) (fun c_48 => ?_) (fun c_48 => ?_)
                            · have hF := zit c_48 hF
                              refine lv_iinc (v := x3_15 + (1 : Int32)) (lv' := [(3, .int (x3_15 + (1 : Int32))), (0, .ref (E.1 (13 + 11 * j))), (1, .int x1_14), (2, .ref a_6)]) hx hb dX4_sellAll_54 hl (k := 3) rfl rfl (by decide) rfl (fun ls hl => ?_)
                              refine lv_goto (tgt := 18) hx hb dX4_sellAll_57 (by decide) ?_
                              exact ih (x3_15 + (1 : Int32)) L_16 _ hF kx_5_0 _ _ _ hP hD hS (lv_sub hl [1, 2, 3, 0] rfl)
                            · have hF := zif c_48 hF
                              refine lv_aload_n hx hb dX4_sellAll_48 rfl (lv_at hl 0 rfl) ?_
                              refine lv_iload_n hx hb dX4_sellAll_49 rfl (lv_at hl 1 rfl) ?_
                              refine lv_iload_n hx hb dX4_sellAll_50 rfl (lv_at hl 3 rfl) ?_
                              have hrv_49 := (va_recv hK hP (ci := 3) (q0 := 13 + 11 * j) rfl (zg_L _ _ _ _ _ _ _ _ _ _ hj _))
                              obtain ⟨u_50, hu_50, hF⟩ := zbd hF
                              refine zcall_v (va_runV (As := [.int x1_14, .int x3_15]) (rest := []) ⟨hx, hb, hml, hown, hts⟩ (qX4_sell l D E KL kc on rw rd ft tr la mo j hj L_16 N _ x1_14 x3_15 _ hu_50) (cwV 2 hts (zgV k2_165 k2_167 kp1_4 k0_6 k2_168) rfl rfl rfl (by decide +kernel) ⟨Nat.le_of_ble_eq_true rfl, Nat.le_of_ble_eq_true rfl⟩) (zpv hE hS hA hK hP hD hrv_49) rfl rfl hl.1 rfl (lv_room (Nat.le_of_ble_eq_true rfl)) dX4_sellAll_51 ⟨Nat.zero_le _, Nat.zero_le _⟩) hD hS hA (fun H locs hP hD hS => ?_)
                              refine lv_iinc (v := x3_15 + (1 : Int32)) (lv' := [(3, .int (x3_15 + (1 : Int32))), (0, .ref (E.1 (13 + 11 * j))), (1, .int x1_14), (2, .ref a_6)]) hx hb dX4_sellAll_54 hl (k := 3) rfl rfl (by decide) rfl (fun ls hl => ?_)
                              refine lv_goto (tgt := 18) hx hb dX4_sellAll_57 (by decide) ?_
                              exact ih (x3_15 + (1 : Int32)) u_50 _ hF kx_5_0 _ _ _ hP hD hS (lv_sub hl [1, 2, 3, 0] rfl)
                          · have hF := zif kk_45 hF
                            exact znone hF
          exact lp_5 x1_1 N (0 : Int32) L_2 _ ho_51 kx_5_0 _ _ _ hP hD hS (lv_sub hl [2, 3, 1, 0] rfl)
  exact lp_3 N (0 : Int32) L _ ho_55 kx_3_0 _ _ _ hP hD hS (lv_sub hl [1, 0] rfl)
def fX4_passYears_l1 (N : Nat) (KL : List Nat) (kc : Nat → zKC) (x1_1 : Int32) : Nat → Int32 → Int32 → zLS → Option zLS
  | 0, _, _, _ => none
  | n + 1, x3_2, x4_3, L_4 =>
    if x1_1 ≤ x4_3 then
      some L_4
    else
      (fX4_sellAll N KL kc L_4).bind fun u_7 =>
      (fX4_loseByChance N u_7 x3_2).bind fun u_9 =>
      (fX4_spreadSold N u_9.2).bind fun u_11 =>
      (fX4_payCost N u_11).bind fun u_13 =>
      fX4_passYears_l1 N KL kc x1_1 n u_9.1 (x4_3 + (1 : Int32)) (zLi u_13 8 ((u_13.1.1 8) + (1 : Int32)))
def fX4_passYears (N : Nat) (KL : List Nat) (kc : Nat → zKC) (L : zLS) (x1 : Int32) (x2 : Int32) : Option zLS :=
  (fX4_passYears_l1 N KL kc x1 N x2 (0 : Int32) L).bind (fun u_16 =>
    some u_16)
set_option maxHeartbeats 4000000 in
set_option maxRecDepth 100000 in
theorem qX4_passYears (l : Launch) (D : va_G) (E : zE) (KL : List Nat) (kc : Nat → zKC) (on : zNS) (rw rd ft tr : zOS) (la : Nat → zLS) (mo : zMS) (j : Nat) (hj : j < 5) (L : zLS) (N sz : Nat) (x1 : Int32) (x2 : Int32) (out : zLS) (hF : fX4_passYears N KL kc L x1 x2 = some out) : zCv l yX4_passYears zwX4_passYears ({ frames := 5, cells := 0, slots := 0, locals := 114 }) [.ref (E.1 (13 + 11 * j)), .int x1, .int x2] D E sz (zW E KL kc on rw rd ft tr (va_up la j L) mo) (zW E KL kc on rw rd ft tr (va_up la j out) mo) 0 0 := by
  refine zent_v (cc := cX4_passYears) (nL := 5) (by decide) rfl (Nat.le_of_ble_eq_true rfl) ?_
  intro p e s m args below meth c Q A hx hb hml hown hts hA hK hP hD hS hE ls hl hend
  have hown : s.vm.findClass RX4 = some m.cls := hown
  have hl : lv_has ls 5 [(0, .ref (E.1 (13 + 11 * j))), (1, .int x1), (2, .int x2)] := hl
  rw [fX4_passYears] at hF
  refine lv_iload_n hx hb dX4_passYears_0 rfl (lv_at hl 2 rfl) ?_
  refine lv_istore_n (lv' := [(3, .int x2), (0, .ref (E.1 (13 + 11 * j))), (1, .int x1), (2, .int x2)]) hx hb dX4_passYears_1 rfl hl (by decide) rfl (fun ls hl => ?_)
  refine lv_iconst (v := 0) hx hb dX4_passYears_2 (by decide) ?_
  refine lv_istore (lv' := [(4, .int (0 : Int32)), (3, .int x2), (0, .ref (E.1 (13 + 11 * j))), (1, .int x1), (2, .int x2)]) hx hb dX4_passYears_3 hl (by decide) rfl (fun ls hl => ?_)
  obtain ⟨o_14, ho_14, hF⟩ := zbd hF
  have kx_1_0 : ∀ (L_15 : zLS), L_15 = o_14 → ∀ (H : Heap) (locs : List Loc) (ls : Array Slot), va_P D vwCl (zW E KL kc on rw rd ft tr (va_up la j L_15) mo) H → va_D A (zW E KL kc on rw rd ft tr (va_up la j L_15) mo) → va_S A s.heap H locs → lv_has ls 5 [] → W p l e ({ frames := 5, cells := 0, slots := 0, locals := 114 } : Room) s m args below meth c H locs 0 0 Q (F0 m 45 ls []) := by
    intro L_15 ho H locs ls hP hD hS hl
    subst ho
    obtain rfl := Option.some.inj hF
    exact hend _ _ _ _ hP hD hS dX4_passYears_45
  have lp_1 : ∀ (x1_1 : Int32) (n : Nat) (x3_2 : Int32) (x4_3 : Int32) (L_4 : zLS) (o : zLS), fX4_passYears_l1 N KL kc x1_1 n x3_2 x4_3 L_4 = some o → (∀ (L_15 : zLS), L_15 = o → ∀ (H : Heap) (locs : List Loc) (ls : Array Slot), va_P D vwCl (zW E KL kc on rw rd ft tr (va_up la j L_15) mo) H → va_D A (zW E KL kc on rw rd ft tr (va_up la j L_15) mo) → va_S A s.heap H locs → lv_has ls 5 [] → W p l e ({ frames := 5, cells := 0, slots := 0, locals := 114 } : Room) s m args below meth c H locs 0 0 Q (F0 m 45 ls [])) → ∀ (H : Heap) (locs : List Loc) (ls : Array Slot), va_P D vwCl (zW E KL kc on rw rd ft tr (va_up la j L_4) mo) H → va_D A (zW E KL kc on rw rd ft tr (va_up la j L_4) mo) → va_S A s.heap H locs → lv_has ls 5 [(0, .ref (E.1 (13 + 11 * j))), (1, .int x1_1), (3, .int x3_2), (4, .int x4_3)] → W p l e ({ frames := 5, cells := 0, slots := 0, locals := 114 } : Room) s m args below meth c H locs 0 0 Q (F0 m 5 ls []) := by
    intro x1_1 n
    induction n with
    | zero =>
      intro x3_2 x4_3 L_4 o hF
      exact znone hF
    | succ n ih =>
      intro x3_2 x4_3 L_4 o hF kx_1_0 H locs ls hP hD hS hl
      rw [fX4_passYears_l1] at hF
      refine lv_iload hx hb dX4_passYears_5 (lv_at hl 3 rfl) ?_
      refine lv_iload_n hx hb dX4_passYears_7 rfl (lv_at hl 1 rfl) ?_
      refine lv_icmp_ge (tgt := 45) hx hb dX4_passYears_8 (by decide) (fun c_5 => ?_) (fun c_5 => ?_)
      · have hF := zit c_5 hF
        exact kx_1_0 L_4 (Option.some.inj hF) _ _ _ hP hD hS (lv_sub hl [] rfl)
      · have hF := zif c_5 hF
        refine lv_aload_n hx hb dX4_passYears_11 rfl (lv_at hl 0 rfl) ?_
        have hrv_6 := (va_recv hK hP (ci := 3) (q0 := 13 + 11 * j) rfl (zg_L _ _ _ _ _ _ _ _ _ _ hj _))
        obtain ⟨u_7, hu_7, hF⟩ := zbd hF
        refine zcall_v (va_runV (As := []) (rest := []) ⟨hx, hb, hml, hown, hts⟩ (qX4_sellAll l D E KL kc on rw rd ft tr la mo j hj L_4 N _ _ hu_7) (cwV 0 hts (zgV k2_125 k2_126 k2_127 k0_6 k2_128) rfl rfl rfl (by decide +kernel) ⟨Nat.le_of_ble_eq_true rfl, Nat.le_of_ble_eq_true rfl⟩) (zpv hE hS hA hK hP hD hrv_6) rfl rfl hl.1 rfl (lv_room (Nat.le_of_ble_eq_true rfl)) dX4_passYears_12 ⟨Nat.zero_le _, Nat.zero_le _⟩) hD hS hA (fun H locs hP hD hS => ?_)
        refine lv_aload_n hx hb dX4_passYears_15 rfl (lv_at hl 0 rfl) ?_
        refine lv_iload_n hx hb dX4_passYears_16 rfl (lv_at hl 2 rfl) ?_
        have hrv_8 := (va_recv hK hP (ci := 3) (q0 := 13 + 11 * j) rfl (zg_L _ _ _ _ _ _ _ _ _ _ hj _))
        obtain ⟨u_9, hu_9, hF⟩ := zbd hF
        refine zcall_i (va_runV (As := [.int x3_2]) (rest := []) ⟨hx, hb, hml, hown, hts⟩ (qX4_loseByChance l D E KL kc on rw rd ft tr la mo j hj u_7 N _ x3_2 _ hu_9) (cwV 1 hts (zgV k2_194 k2_196 kp1_5 k0_6 k2_197) rfl rfl rfl (by decide +kernel) ⟨Nat.le_of_ble_eq_true rfl, Nat.le_of_ble_eq_true rfl⟩) (zpv hE hS hA hK hP hD hrv_8) rfl rfl hl.1 rfl (lv_room (Nat.le_of_ble_eq_true rfl)) dX4_passYears_17 ⟨Nat.zero_le _, Nat.zero_le _⟩) hD hS hA (fun H locs hP hD hS => ?_)
        refine lv_istore_n (lv' := [(3, .int u_9.1), (0, .ref (E.1 (13 + 11 * j))), (1, .int x1_1), (4, .int x4_3)]) hx hb dX4_passYears_20 rfl hl (by decide) rfl (fun ls hl => ?_)
        refine lv_aload_n hx hb dX4_passYears_21 rfl (lv_at hl 1 rfl) ?_
        have hrv_10 := (va_recv hK hP (ci := 3) (q0 := 13 + 11 * j) rfl (zg_L _ _ _ _ _ _ _ _ _ _ hj _))
        obtain ⟨u_11, hu_11, hF⟩ := zbd hF
        refine zcall_v (va_runV (As := []) (rest := []) ⟨hx, hb, hml, hown, hts⟩ (qX4_spreadSold l D E KL kc on rw rd ft tr la mo j hj u_9.2 N _ _ hu_11) (cwV 0 hts (zgV k2_200 k2_202 kp1_6 k0_6 k2_203) rfl rfl rfl (by decide +kernel) ⟨Nat.le_of_ble_eq_true rfl, Nat.le_of_ble_eq_true rfl⟩) (zpv hE hS hA hK hP hD hrv_10) rfl rfl hl.1 rfl (lv_room (Nat.le_of_ble_eq_true rfl)) dX4_passYears_22 ⟨Nat.zero_le _, Nat.zero_le _⟩) hD hS hA (fun H locs hP hD hS => ?_)
        refine lv_aload_n hx hb dX4_passYears_25 rfl (lv_at hl 1 rfl) ?_
        have hrv_12 := (va_recv hK hP (ci := 3) (q0 := 13 + 11 * j) rfl (zg_L _ _ _ _ _ _ _ _ _ _ hj _))
        obtain ⟨u_13, hu_13, hF⟩ := zbd hF
        refine zcall_v (va_runV (As := []) (rest := []) ⟨hx, hb, hml, hown, hts⟩ (qX4_payCost l D E KL kc on rw rd ft tr la mo j hj u_11 N _ _ hu_13) (cwV 0 hts (zgV k2_204 k2_206 kp1_7 k0_6 k2_207) rfl rfl rfl (by decide +kernel) ⟨Nat.le_of_ble_eq_true rfl, Nat.le_of_ble_eq_true rfl⟩) (zpv hE hS hA hK hP hD hrv_12) rfl rfl hl.1 rfl (lv_room (Nat.le_of_ble_eq_true rfl)) dX4_passYears_26 ⟨Nat.zero_le _, Nat.zero_le _⟩) hD hS hA (fun H locs hP hD hS => ?_)
        refine lv_aload_n hx hb dX4_passYears_29 rfl (lv_at hl 1 rfl) ?_
        refine lv_dup hx hb dX4_passYears_30 rfl ?_
        refine va_get (D := D) (ci := 3) (v := .int (u_13.1.1 8)) (C := RX4) (T := TX4) (N := 19) hx hb hts (zi iX4) hown hK hP (13 + 11 * j) (zg_L _ _ _ _ _ _ _ _ _ _ hj _) rfl 8 (by decide) (zh hts k0_125) (fun _ h9 => h9) rfl dX4_passYears_31 ?_
        refine lv_iconst (v := 1) hx hb dX4_passYears_34 (by decide) ?_
        refine lv_iadd hx hb dX4_passYears_35 ?_
        refine va_put (D := D) (ci := 3) (v := .int ((u_13.1.1 8) + (1 : Int32))) (ty := .int) (C := RX4) (T := TX4) (N := 19) hx hb hts (zi iX4) tyX4 tyX4_ok nmX4 hown hK hP hD hS (13 + 11 * j) (zg_L _ _ _ _ _ _ _ _ _ _ hj _) rfl 8 (by decide) (zh hts k0_125) (fun _ h9 => h9) rfl (by decide +kernel) rfl rfl (Nat.le_of_ble_eq_true rfl) dX4_passYears_36 (fun H locs hP hD hS => ?_)
        rw [zs_L_8 _ _ _ _ _ _ _ _ _ _ hj] at hP hD
        refine lv_iinc (v := x4_3 + (1 : Int32)) (lv' := [(4, .int (x4_3 + (1 : Int32))), (3, .int u_9.1), (0, .ref (E.1 (13 + 11 * j))), (1, .int x1_1)]) hx hb dX4_passYears_39 hl (k := 3) rfl rfl (by decide) rfl (fun ls hl => ?_)
        refine lv_goto (tgt := 5) hx hb dX4_passYears_42 (by decide) ?_
        exact ih u_9.1 (x4_3 + (1 : Int32)) (zLi u_13 8 ((u_13.1.1 8) + (1 : Int32))) _ hF kx_1_0 _ _ _ hP hD hS (lv_sub hl [2, 3, 1, 0] rfl)
  exact lp_1 x1 N x2 (0 : Int32) L _ ho_14 kx_1_0 _ _ _ hP hD hS (lv_sub hl [2, 3, 1, 0] rfl)
