def fX0_kindTold (N : Nat) (a : Nat) : Option Int32 :=
  some (2 : Int32)
set_option maxHeartbeats 4000000 in
set_option maxRecDepth 100000 in
theorem qX0_kindTold (l : Launch) (D : va_G) (E : zE) (KL : List Nat) (kc : Nat → zKC) (on : zNS) (rw rd ft tr : zOS) (la : Nat → zLS) (mo : zMS) (a : Nat) (ha : a ∈ KL) (hk : (kc a).1 = 0 ∨ (kc a).1 = 1 ∨ (kc a).1 = 9) (N sz : Nat)  (out : Int32) (hF : fX0_kindTold N a = some out) : zCi l yX0_kindTold zwX0_kindTold ({ frames := 0, cells := 0, slots := 0, locals := 0 }) [.ref a] D E sz (zW E KL kc on rw rd ft tr la mo) (zW E KL kc on rw rd ft tr la mo) out 0 0 := by
  refine zent_i (cc := cX0_kindTold) (nL := 1) (by decide) rfl (Nat.le_of_ble_eq_true rfl) ?_
  intro p e s m args below meth c Q A hx hb hml hown hts hA hK hP hD hS hE ls hl hend
  have hown : s.vm.findClass RX0 = some m.cls := hown
  have hl : lv_has ls 1 [(0, .ref a)] := hl
  rw [fX0_kindTold] at hF
  refine lv_iconst (v := 2) hx hb dX0_kindTold_0 (by decide) ?_
  obtain rfl := Option.some.inj hF
  exact hend _ _ _ _ hP hD hS dX0_kindTold_1
def fX0_sells (N : Nat) (kc : Nat → zKC) (L : zLS) (a : Nat) (x2 : Int32) : Option Int32 :=
  if (L.1.1 8) < ((kc a).2.2.1) then
    some (0 : Int32)
  else
    some (1 : Int32)
set_option maxHeartbeats 4000000 in
set_option maxRecDepth 100000 in
theorem qX0_sells (l : Launch) (D : va_G) (E : zE) (KL : List Nat) (kc : Nat → zKC) (on : zNS) (rw rd ft tr : zOS) (la : Nat → zLS) (mo : zMS) (j : Nat) (hj : j < 5) (L : zLS) (a : Nat) (ha : a ∈ KL) (hk : (kc a).1 = 0 ∨ (kc a).1 = 1 ∨ (kc a).1 = 9) (N sz : Nat) (x2 : Int32) (out : Int32) (hF : fX0_sells N kc L a x2 = some out) : zCi l yX0_sells zwX0_sells ({ frames := 0, cells := 0, slots := 0, locals := 0 }) [.ref a, .ref (E.1 (13 + 11 * j)), .int x2] D E sz (zW E KL kc on rw rd ft tr (va_up la j L) mo) (zW E KL kc on rw rd ft tr (va_up la j L) mo) out 0 0 := by
  refine zent_z (cc := cX0_sells) (nL := 3) (by decide) rfl (Nat.le_of_ble_eq_true rfl) ?_
  intro p e s m args below meth c Q A hx hb hml hown hts hA hK hP hD hS hE ls hl hend
  have hown : s.vm.findClass RX0 = some m.cls := hown
  have hl : lv_has ls 3 [(0, .ref a), (1, .ref (E.1 (13 + 11 * j))), (2, .int x2)] := hl
  rw [fX0_sells] at hF
  refine lv_aload_n hx hb dX0_sells_0 rfl (lv_at hl 1 rfl) ?_
  refine va_get (D := D) (ci := 3) (v := .int (L.1.1 8)) (C := RX4) (T := TX4) (N := 19) hx hb hts (zi iX4) hown hK hP (13 + 11 * j) (zg_L _ _ _ _ _ _ _ _ _ _ hj _) rfl 8 (by decide) (zh hts k0_123) (fun _ h9 => h9) rfl dX0_sells_1 ?_
  refine lv_aload_n hx hb dX0_sells_4 rfl (lv_at hl 0 rfl) ?_
  refine zgetK (v := (kc a).2.2.1) hx hb hts hown hK hP ha (by omega) 1 (by decide) (name := "n") rfl (zh hts k2_11) (u_same (zh hts k2_12)) rfl dX0_sells_5 ?_
  refine lv_icmp_lt (tgt := 15) hx hb dX0_sells_8 (by decide) (fun c_1 => ?_) (fun c_1 => ?_)
  · have hF := zit c_1 hF
    refine lv_iconst (v := 0) hx hb dX0_sells_15 (by decide) ?_
    obtain rfl := Option.some.inj hF
    exact hend _ _ _ _ znar0 hP hD hS dX0_sells_16
  · have hF := zif c_1 hF
    refine lv_iconst (v := 1) hx hb dX0_sells_11 (by decide) ?_
    refine lv_goto (tgt := 16) hx hb dX0_sells_12 (by decide) ?_
    obtain rfl := Option.some.inj hF
    exact hend _ _ _ _ znar1 hP hD hS dX0_sells_16
def fX1_kindTold (N : Nat) (a : Nat) : Option Int32 :=
  some (4 : Int32)
set_option maxHeartbeats 4000000 in
set_option maxRecDepth 100000 in
theorem qX1_kindTold (l : Launch) (D : va_G) (E : zE) (KL : List Nat) (kc : Nat → zKC) (on : zNS) (rw rd ft tr : zOS) (la : Nat → zLS) (mo : zMS) (a : Nat) (ha : a ∈ KL) (hk : (kc a).1 = 1) (N sz : Nat)  (out : Int32) (hF : fX1_kindTold N a = some out) : zCi l yX1_kindTold zwX1_kindTold ({ frames := 0, cells := 0, slots := 0, locals := 0 }) [.ref a] D E sz (zW E KL kc on rw rd ft tr la mo) (zW E KL kc on rw rd ft tr la mo) out 0 0 := by
  refine zent_i (cc := cX1_kindTold) (nL := 1) (by decide) rfl (Nat.le_of_ble_eq_true rfl) ?_
  intro p e s m args below meth c Q A hx hb hml hown hts hA hK hP hD hS hE ls hl hend
  have hown : s.vm.findClass RX1 = some m.cls := hown
  have hl : lv_has ls 1 [(0, .ref a)] := hl
  rw [fX1_kindTold] at hF
  refine lv_iconst (v := 4) hx hb dX1_kindTold_0 (by decide) ?_
  obtain rfl := Option.some.inj hF
  exact hend _ _ _ _ hP hD hS dX1_kindTold_1
def fX5_kindTold (N : Nat) (a : Nat) : Option Int32 :=
  some (1 : Int32)
set_option maxHeartbeats 4000000 in
set_option maxRecDepth 100000 in
theorem qX5_kindTold (l : Launch) (D : va_G) (E : zE) (KL : List Nat) (kc : Nat → zKC) (on : zNS) (rw rd ft tr : zOS) (la : Nat → zLS) (mo : zMS) (a : Nat) (ha : a ∈ KL) (hk : (kc a).1 = 4) (N sz : Nat)  (out : Int32) (hF : fX5_kindTold N a = some out) : zCi l yX5_kindTold zwX5_kindTold ({ frames := 0, cells := 0, slots := 0, locals := 0 }) [.ref a] D E sz (zW E KL kc on rw rd ft tr la mo) (zW E KL kc on rw rd ft tr la mo) out 0 0 := by
  refine zent_i (cc := cX5_kindTold) (nL := 1) (by decide) rfl (Nat.le_of_ble_eq_true rfl) ?_
  intro p e s m args below meth c Q A hx hb hml hown hts hA hK hP hD hS hE ls hl hend
  have hown : s.vm.findClass RX5 = some m.cls := hown
  have hl : lv_has ls 1 [(0, .ref a)] := hl
  rw [fX5_kindTold] at hF
  refine lv_iconst (v := 1) hx hb dX5_kindTold_0 (by decide) ?_
  obtain rfl := Option.some.inj hF
  exact hend _ _ _ _ hP hD hS dX5_kindTold_1
def fX5_sells (N : Nat) (a : Nat) (x2 : Int32) : Option Int32 :=
  some (1 : Int32)
set_option maxHeartbeats 4000000 in
set_option maxRecDepth 100000 in
theorem qX5_sells (l : Launch) (D : va_G) (E : zE) (KL : List Nat) (kc : Nat → zKC) (on : zNS) (rw rd ft tr : zOS) (la : Nat → zLS) (mo : zMS) (j : Nat) (hj : j < 5) (L : zLS) (a : Nat) (ha : a ∈ KL) (hk : (kc a).1 = 4) (N sz : Nat) (x2 : Int32) (out : Int32) (hF : fX5_sells N a x2 = some out) : zCi l yX5_sells zwX5_sells ({ frames := 0, cells := 0, slots := 0, locals := 0 }) [.ref a, .ref (E.1 (13 + 11 * j)), .int x2] D E sz (zW E KL kc on rw rd ft tr (va_up la j L) mo) (zW E KL kc on rw rd ft tr (va_up la j L) mo) out 0 0 := by
  refine zent_z (cc := cX5_sells) (nL := 3) (by decide) rfl (Nat.le_of_ble_eq_true rfl) ?_
  intro p e s m args below meth c Q A hx hb hml hown hts hA hK hP hD hS hE ls hl hend
  have hown : s.vm.findClass RX5 = some m.cls := hown
  have hl : lv_has ls 3 [(0, .ref a), (1, .ref (E.1 (13 + 11 * j))), (2, .int x2)] := hl
  rw [fX5_sells] at hF
  refine lv_iconst (v := 1) hx hb dX5_sells_0 (by decide) ?_
  obtain rfl := Option.some.inj hF
  exact hend _ _ _ _ znar1 hP hD hS dX5_sells_1
def fX8_kindTold (N : Nat) (a : Nat) : Option Int32 :=
  some (5 : Int32)
set_option maxHeartbeats 4000000 in
set_option maxRecDepth 100000 in
theorem qX8_kindTold (l : Launch) (D : va_G) (E : zE) (KL : List Nat) (kc : Nat → zKC) (on : zNS) (rw rd ft tr : zOS) (la : Nat → zLS) (mo : zMS) (a : Nat) (ha : a ∈ KL) (hk : (kc a).1 = 7) (N sz : Nat)  (out : Int32) (hF : fX8_kindTold N a = some out) : zCi l yX8_kindTold zwX8_kindTold ({ frames := 0, cells := 0, slots := 0, locals := 0 }) [.ref a] D E sz (zW E KL kc on rw rd ft tr la mo) (zW E KL kc on rw rd ft tr la mo) out 0 0 := by
  refine zent_i (cc := cX8_kindTold) (nL := 1) (by decide) rfl (Nat.le_of_ble_eq_true rfl) ?_
  intro p e s m args below meth c Q A hx hb hml hown hts hA hK hP hD hS hE ls hl hend
  have hown : s.vm.findClass RX8 = some m.cls := hown
  have hl : lv_has ls 1 [(0, .ref a)] := hl
  rw [fX8_kindTold] at hF
  refine lv_iconst (v := 5) hx hb dX8_kindTold_0 (by decide) ?_
  obtain rfl := Option.some.inj hF
  exact hend _ _ _ _ hP hD hS dX8_kindTold_1
def fX8_sells (N : Nat) (a : Nat) (x2 : Int32) : Option Int32 :=
  some (0 : Int32)
set_option maxHeartbeats 4000000 in
set_option maxRecDepth 100000 in
theorem qX8_sells (l : Launch) (D : va_G) (E : zE) (KL : List Nat) (kc : Nat → zKC) (on : zNS) (rw rd ft tr : zOS) (la : Nat → zLS) (mo : zMS) (j : Nat) (hj : j < 5) (L : zLS) (a : Nat) (ha : a ∈ KL) (hk : (kc a).1 = 7) (N sz : Nat) (x2 : Int32) (out : Int32) (hF : fX8_sells N a x2 = some out) : zCi l yX8_sells zwX8_sells ({ frames := 0, cells := 0, slots := 0, locals := 0 }) [.ref a, .ref (E.1 (13 + 11 * j)), .int x2] D E sz (zW E KL kc on rw rd ft tr (va_up la j L) mo) (zW E KL kc on rw rd ft tr (va_up la j L) mo) out 0 0 := by
  refine zent_z (cc := cX8_sells) (nL := 3) (by decide) rfl (Nat.le_of_ble_eq_true rfl) ?_
  intro p e s m args below meth c Q A hx hb hml hown hts hA hK hP hD hS hE ls hl hend
  have hown : s.vm.findClass RX8 = some m.cls := hown
  have hl : lv_has ls 3 [(0, .ref a), (1, .ref (E.1 (13 + 11 * j))), (2, .int x2)] := hl
  rw [fX8_sells] at hF
  refine lv_iconst (v := 0) hx hb dX8_sells_0 (by decide) ?_
  obtain rfl := Option.some.inj hF
  exact hend _ _ _ _ znar0 hP hD hS dX8_sells_1
def fX10_kindTold (N : Nat) (a : Nat) : Option Int32 :=
  some (3 : Int32)
set_option maxHeartbeats 4000000 in
set_option maxRecDepth 100000 in
theorem qX10_kindTold (l : Launch) (D : va_G) (E : zE) (KL : List Nat) (kc : Nat → zKC) (on : zNS) (rw rd ft tr : zOS) (la : Nat → zLS) (mo : zMS) (a : Nat) (ha : a ∈ KL) (hk : (kc a).1 = 9) (N sz : Nat)  (out : Int32) (hF : fX10_kindTold N a = some out) : zCi l yX10_kindTold zwX10_kindTold ({ frames := 0, cells := 0, slots := 0, locals := 0 }) [.ref a] D E sz (zW E KL kc on rw rd ft tr la mo) (zW E KL kc on rw rd ft tr la mo) out 0 0 := by
  refine zent_i (cc := cX10_kindTold) (nL := 1) (by decide) rfl (Nat.le_of_ble_eq_true rfl) ?_
  intro p e s m args below meth c Q A hx hb hml hown hts hA hK hP hD hS hE ls hl hend
  have hown : s.vm.findClass RX10 = some m.cls := hown
  have hl : lv_has ls 1 [(0, .ref a)] := hl
  rw [fX10_kindTold] at hF
  refine lv_iconst (v := 3) hx hb dX10_kindTold_0 (by decide) ?_
  obtain rfl := Option.some.inj hF
  exact hend _ _ _ _ hP hD hS dX10_kindTold_1
def fX10_isAnotherAboutTo_l1 (N : Nat) (KL : List Nat) (kc : Nat → zKC) (a : Nat) (L_3 : zLS) (x2_1 : Int32) : Nat → Int32 → Option (Sum Unit Unit)
  | 0, _ => none
  | n + 1, x3_2 =>
    if (L_3.1.1 6) ≤ x3_2 then
      some (Sum.inl ())
    else
      (fX4_keeperAt N KL kc L_3 x3_2).bind fun u_6 =>
      match u_6 with
      | none =>
        if x3_2 = ((kc a).2.1) then
          fX10_isAnotherAboutTo_l1 N KL kc a L_3 x2_1 n (x3_2 + (1 : Int32))
        else
          fX10_isAnotherAboutTo_l1 N KL kc a L_3 x2_1 n (x3_2 + (1 : Int32))
      | some a_7 =>
        if ¬ zkd KL kc a_7 then none else
        if x3_2 = ((kc a).2.1) then
          fX10_isAnotherAboutTo_l1 N KL kc a L_3 x2_1 n (x3_2 + (1 : Int32))
        else
          if (kc a_7).1 = 0 then
            if ((L_3.1.1 8) + (1 : Int32)) < ((kc a_7).2.2.1) then
              fX10_isAnotherAboutTo_l1 N KL kc a L_3 x2_1 n (x3_2 + (1 : Int32))
            else
              (fX4_hasUnsold N L_3 x3_2 x2_1).bind fun u_17 =>
              if u_17 = 0 then
                fX10_isAnotherAboutTo_l1 N KL kc a L_3 x2_1 n (x3_2 + (1 : Int32))
              else
                some (Sum.inr ())
          else if (kc a_7).1 = 1 then
            if ((L_3.1.1 8) + (1 : Int32)) < ((kc a_7).2.2.1) then
              fX10_isAnotherAboutTo_l1 N KL kc a L_3 x2_1 n (x3_2 + (1 : Int32))
            else
              (fX4_hasUnsold N L_3 x3_2 x2_1).bind fun u_24 =>
              if u_24 = 0 then
                fX10_isAnotherAboutTo_l1 N KL kc a L_3 x2_1 n (x3_2 + (1 : Int32))
              else
                some (Sum.inr ())
          else if (kc a_7).1 = 4 then
            fX10_isAnotherAboutTo_l1 N KL kc a L_3 x2_1 n (x3_2 + (1 : Int32))
          else if (kc a_7).1 = 7 then
            fX10_isAnotherAboutTo_l1 N KL kc a L_3 x2_1 n (x3_2 + (1 : Int32))
          else if (kc a_7).1 = 9 then
            if ((L_3.1.1 8) + (1 : Int32)) < ((kc a_7).2.2.1) then
              fX10_isAnotherAboutTo_l1 N KL kc a L_3 x2_1 n (x3_2 + (1 : Int32))
            else
              (fX4_hasUnsold N L_3 x3_2 x2_1).bind fun u_37 =>
              if u_37 = 0 then
                fX10_isAnotherAboutTo_l1 N KL kc a L_3 x2_1 n (x3_2 + (1 : Int32))
              else
                some (Sum.inr ())
          else none
def fX10_isAnotherAboutTo (N : Nat) (KL : List Nat) (kc : Nat → zKC) (L : zLS) (a : Nat) (x2 : Int32) : Option Int32 :=
  (fX10_isAnotherAboutTo_l1 N KL kc a L x2 N (0 : Int32)).bind (Sum.elim (fun _ =>
    some (0 : Int32))
  (fun _ =>
    some (1 : Int32)))
set_option maxHeartbeats 4000000 in
set_option maxRecDepth 100000 in
theorem qX10_isAnotherAboutTo (l : Launch) (D : va_G) (E : zE) (KL : List Nat) (kc : Nat → zKC) (on : zNS) (rw rd ft tr : zOS) (la : Nat → zLS) (mo : zMS) (j : Nat) (hj : j < 5) (L : zLS) (a : Nat) (ha : a ∈ KL) (hk : (kc a).1 = 9) (N sz : Nat) (x2 : Int32) (out : Int32) (hF : fX10_isAnotherAboutTo N KL kc L a x2 = some out) : zCi l yX10_isAnotherAboutTo zwX10_isAnotherAboutTo ({ frames := 2, cells := 0, slots := 0, locals := 45 }) [.ref a, .ref (E.1 (13 + 11 * j)), .int x2] D E sz (zW E KL kc on rw rd ft tr (va_up la j L) mo) (zW E KL kc on rw rd ft tr (va_up la j L) mo) out 0 0 := by
  refine zent_z (cc := cX10_isAnotherAboutTo) (nL := 5) (by decide) rfl (Nat.le_of_ble_eq_true rfl) ?_
  intro p e s m args below meth c Q A hx hb hml hown hts hA hK hP hD hS hE ls hl hend
  have hown : s.vm.findClass RX10 = some m.cls := hown
  have hl : lv_has ls 5 [(0, .ref a), (1, .ref (E.1 (13 + 11 * j))), (2, .int x2)] := hl
  rw [fX10_isAnotherAboutTo] at hF
  refine lv_iconst (v := 0) hx hb dX10_isAnotherAboutTo_0 (by decide) ?_
  refine lv_istore_n (lv' := [(3, .int (0 : Int32)), (0, .ref a), (1, .ref (E.1 (13 + 11 * j))), (2, .int x2)]) hx hb dX10_isAnotherAboutTo_1 rfl hl (by decide) rfl (fun ls hl => ?_)
  obtain ⟨o_40, ho_40, hF⟩ := zbd hF
  have kx_1_0 : (Sum.inl ()) = o_40 → ∀ (H : Heap) (locs : List Loc) (ls : Array Slot), va_P D vwCl (zW E KL kc on rw rd ft tr (va_up la j L) mo) H → va_D A (zW E KL kc on rw rd ft tr (va_up la j L) mo) → va_S A s.heap H locs → lv_has ls 5 [] → W p l e ({ frames := 2, cells := 0, slots := 0, locals := 45 } : Room) s m args below meth c H locs 0 0 Q (F0 m 64 ls []) := by
    intro ho H locs ls hP hD hS hl
    subst ho
    have hF := zinl hF
    refine lv_iconst (v := 0) hx hb dX10_isAnotherAboutTo_64 (by decide) ?_
    obtain rfl := Option.some.inj hF
    exact hend _ _ _ _ znar0 hP hD hS dX10_isAnotherAboutTo_65
  have kx_1_1 : (Sum.inr ()) = o_40 → ∀ (H : Heap) (locs : List Loc) (ls : Array Slot), va_P D vwCl (zW E KL kc on rw rd ft tr (va_up la j L) mo) H → va_D A (zW E KL kc on rw rd ft tr (va_up la j L) mo) → va_S A s.heap H locs → lv_has ls 5 [] → W p l e ({ frames := 2, cells := 0, slots := 0, locals := 45 } : Room) s m args below meth c H locs 0 0 Q (F0 m 56 ls []) := by
    intro ho H locs ls hP hD hS hl
    subst ho
    have hF := zinr hF
    refine lv_iconst (v := 1) hx hb dX10_isAnotherAboutTo_56 (by decide) ?_
    obtain rfl := Option.some.inj hF
    exact hend _ _ _ _ znar1 hP hD hS dX10_isAnotherAboutTo_57
  have lp_1 : ∀ (L_3 : zLS) (x2_1 : Int32) (n : Nat) (x3_2 : Int32) (o : (Sum Unit Unit)), fX10_isAnotherAboutTo_l1 N KL kc a L_3 x2_1 n x3_2 = some o → ((Sum.inl ()) = o → ∀ (H : Heap) (locs : List Loc) (ls : Array Slot), va_P D vwCl (zW E KL kc on rw rd ft tr (va_up la j L_3) mo) H → va_D A (zW E KL kc on rw rd ft tr (va_up la j L_3) mo) → va_S A s.heap H locs → lv_has ls 5 [] → W p l e ({ frames := 2, cells := 0, slots := 0, locals := 45 } : Room) s m args below meth c H locs 0 0 Q (F0 m 64 ls [])) → ((Sum.inr ()) = o → ∀ (H : Heap) (locs : List Loc) (ls : Array Slot), va_P D vwCl (zW E KL kc on rw rd ft tr (va_up la j L_3) mo) H → va_D A (zW E KL kc on rw rd ft tr (va_up la j L_3) mo) → va_S A s.heap H locs → lv_has ls 5 [] → W p l e ({ frames := 2, cells := 0, slots := 0, locals := 45 } : Room) s m args below meth c H locs 0 0 Q (F0 m 56 ls [])) → ∀ (H : Heap) (locs : List Loc) (ls : Array Slot), va_P D vwCl (zW E KL kc on rw rd ft tr (va_up la j L_3) mo) H → va_D A (zW E KL kc on rw rd ft tr (va_up la j L_3) mo) → va_S A s.heap H locs → lv_has ls 5 [(0, .ref a), (1, .ref (E.1 (13 + 11 * j))), (2, .int x2_1), (3, .int x3_2)] → W p l e ({ frames := 2, cells := 0, slots := 0, locals := 45 } : Room) s m args below meth c H locs 0 0 Q (F0 m 2 ls []) := by
    intro L_3 x2_1 n
    induction n with
    | zero =>
      intro x3_2 o hF
      exact znone hF
    | succ n ih =>
      intro x3_2 o hF kx_1_0 kx_1_1 H locs ls hP hD hS hl
      rw [fX10_isAnotherAboutTo_l1] at hF
      refine lv_iload_n hx hb dX10_isAnotherAboutTo_2 rfl (lv_at hl 3 rfl) ?_
      refine lv_aload_n hx hb dX10_isAnotherAboutTo_3 rfl (lv_at hl 1 rfl) ?_
      refine va_get (D := D) (ci := 3) (v := .int (L_3.1.1 6)) (C := RX4) (T := TX4) (N := 19) hx hb hts (zi iX4) hown hK hP (13 + 11 * j) (zg_L _ _ _ _ _ _ _ _ _ _ hj _) rfl 6 (by decide) (zh hts k0_117) (fun _ h9 => h9) rfl dX10_isAnotherAboutTo_4 ?_
      refine lv_icmp_ge (tgt := 64) hx hb dX10_isAnotherAboutTo_7 (by decide) (fun c_4 => ?_) (fun c_4 => ?_)
      · have hF := zit c_4 hF
        exact kx_1_0 (Option.some.inj hF) _ _ _ hP hD hS (lv_sub hl [] rfl)
      · have hF := zif c_4 hF
        refine lv_aload_n hx hb dX10_isAnotherAboutTo_10 rfl (lv_at hl 1 rfl) ?_
        refine lv_iload_n hx hb dX10_isAnotherAboutTo_11 rfl (lv_at hl 3 rfl) ?_
        have hrv_5 := (va_recv hK hP (ci := 3) (q0 := 13 + 11 * j) rfl (zg_L _ _ _ _ _ _ _ _ _ _ hj _))
        obtain ⟨u_6, hu_6, hF⟩ := zbd hF
        refine zcall_q (va_runV (As := [.int x3_2]) (rest := []) ⟨hx, hb, hml, hown, hts⟩ (qX4_keeperAt l D E KL kc on rw rd ft tr la mo j hj L_3 N _ x3_2 _ hu_6) (cwV 1 hts (zgV k2_162 k2_84 k2_85 k0_6 k2_86) rfl rfl rfl (by decide +kernel) ⟨Nat.le_of_ble_eq_true rfl, Nat.le_of_ble_eq_true rfl⟩) (zpv hE hS hA hK hP hD hrv_5) rfl rfl hl.1 rfl (lv_room (Nat.le_of_ble_eq_true rfl)) dX10_isAnotherAboutTo_12 ⟨Nat.zero_le _, Nat.zero_le _⟩) hD hS hA (fun H locs hP hD hS => ?_)
        cases u_6 with
        | none =>
          refine lv_astoreN (lv' := [(4, .null), (0, .ref a), (1, .ref (E.1 (13 + 11 * j))), (2, .int x2_1), (3, .int x3_2)]) hx hb dX10_isAnotherAboutTo_15 hl (by decide) rfl (fun ls hl => ?_)
          refine lv_iload_n hx hb dX10_isAnotherAboutTo_17 rfl (lv_at hl 4 rfl) ?_
          refine lv_aload_n hx hb dX10_isAnotherAboutTo_18 rfl (lv_at hl 1 rfl) ?_
          refine zgetK (v := (kc a).2.1) hx hb hts hown hK hP ha (by omega) 0 (by decide) (name := "index") rfl (zh hts k2_8) (u_same (zh hts k2_9)) rfl dX10_isAnotherAboutTo_19 ?_
          refine lv_icmp_eq (tgt := 58) hx hb dX10_isAnotherAboutTo_22 (by decide) (fun c_9 => ?_) (fun c_9 => ?_)
          · have hF := zit c_9 hF
            refine lv_iinc (v := x3_2 + (1 : Int32)) (lv' := [(3, .int (x3_2 + (1 : Int32))), (4, .null), (0, .ref a), (1, .ref (E.1 (13 + 11 * j))), (2, .int x2_1)]) hx hb dX10_isAnotherAboutTo_58 hl (k := 4) rfl rfl (by decide) rfl (fun ls hl => ?_)
            refine lv_goto (tgt := 2) hx hb dX10_isAnotherAboutTo_61 (by decide) ?_
            exact ih (x3_2 + (1 : Int32)) _ hF kx_1_0 kx_1_1 _ _ _ hP hD hS (lv_sub hl [2, 3, 4, 0] rfl)
          · have hF := zif c_9 hF
            refine lv_aloadN hx hb dX10_isAnotherAboutTo_25 (lv_at hl 0 rfl) ?_
            refine lv_instN hx hb dX10_isAnotherAboutTo_27 ?_
            refine lv_if_eq (tgt := 58) hx hb dX10_isAnotherAboutTo_30 (by decide) (fun c_10 => ?_) (fun c_10 => ?_)
            · refine lv_iinc (v := x3_2 + (1 : Int32)) (lv' := [(3, .int (x3_2 + (1 : Int32))), (4, .null), (0, .ref a), (1, .ref (E.1 (13 + 11 * j))), (2, .int x2_1)]) hx hb dX10_isAnotherAboutTo_58 hl (k := 4) rfl rfl (by decide) rfl (fun ls hl => ?_)
              refine lv_goto (tgt := 2) hx hb dX10_isAnotherAboutTo_61 (by decide) ?_
              exact ih (x3_2 + (1 : Int32)) _ hF kx_1_0 kx_1_1 _ _ _ hP hD hS (lv_sub hl [2, 3, 4, 0] rfl)
            · exact absurd (by decide) c_10
        | some a_7 =>
          obtain ⟨k_8, hF⟩ := zgd hF
          have k_8 := Decidable.not_not.mp k_8
          have km_7 := k_8.1
          have k_8 := k_8.2
          refine lv_astore (lv' := [(4, .ref a_7), (0, .ref a), (1, .ref (E.1 (13 + 11 * j))), (2, .int x2_1), (3, .int x3_2)]) hx hb dX10_isAnotherAboutTo_15 hl (by decide) rfl (fun ls hl => ?_)
          refine lv_iload_n hx hb dX10_isAnotherAboutTo_17 rfl (lv_at hl 4 rfl) ?_
          refine lv_aload_n hx hb dX10_isAnotherAboutTo_18 rfl (lv_at hl 1 rfl) ?_
          refine zgetK (v := (kc a).2.1) hx hb hts hown hK hP ha (by omega) 0 (by decide) (name := "index") rfl (zh hts k2_8) (u_same (zh hts k2_9)) rfl dX10_isAnotherAboutTo_19 ?_
          refine lv_icmp_eq (tgt := 58) hx hb dX10_isAnotherAboutTo_22 (by decide) (fun c_11 => ?_) (fun c_11 => ?_)
          · have hF := zit c_11 hF
            refine lv_iinc (v := x3_2 + (1 : Int32)) (lv' := [(3, .int (x3_2 + (1 : Int32))), (4, .ref a_7), (0, .ref a), (1, .ref (E.1 (13 + 11 * j))), (2, .int x2_1)]) hx hb dX10_isAnotherAboutTo_58 hl (k := 4) rfl rfl (by decide) rfl (fun ls hl => ?_)
            refine lv_goto (tgt := 2) hx hb dX10_isAnotherAboutTo_61 (by decide) ?_
            exact ih (x3_2 + (1 : Int32)) _ hF kx_1_0 kx_1_1 _ _ _ hP hD hS (lv_sub hl [2, 3, 4, 0] rfl)
          · have hF := zif c_11 hF
            refine lv_aload hx hb dX10_isAnotherAboutTo_25 (lv_at hl 0 rfl) ?_
            by_cases kk_12 : (kc a_7).1 = 0
            · have hF := zit kk_12 hF
              obtain ⟨q_13, hq_13⟩ := zg_K E KL kc on rw rd ft tr (va_up la j L_3) mo km_7 kk_12
              refine va_instS (cC := D.1 0) hx hb hown (zh hts k2_163) (hK.1 0 (RX0, TX0, 3) rfl).2 (va_recv hK hP (ci := 0) (q0 := q_13) rfl hq_13) dX10_isAnotherAboutTo_27 ?_
              refine lv_if_eq (tgt := 58) hx hb dX10_isAnotherAboutTo_30 (by decide) (fun c_14 => ?_) (fun c_14 => ?_)
              · exact absurd c_14 (by decide)
              · refine lv_aload hx hb dX10_isAnotherAboutTo_33 (lv_at hl 0 rfl) ?_
                refine zgetK (v := (kc a_7).2.2.1) hx hb hts hown hK hP km_7 (by omega) 1 (by decide) (name := "n") rfl (zh hts k2_13) (fun _ h9 => h9) rfl dX10_isAnotherAboutTo_35 ?_
                refine lv_aload_n hx hb dX10_isAnotherAboutTo_38 rfl (lv_at hl 2 rfl) ?_
                refine va_get (D := D) (ci := 3) (v := .int (L_3.1.1 8)) (C := RX4) (T := TX4) (N := 19) hx hb hts (zi iX4) hown hK hP (13 + 11 * j) (zg_L _ _ _ _ _ _ _ _ _ _ hj _) rfl 8 (by decide) (zh hts k0_124) (fun _ h9 => h9) rfl dX10_isAnotherAboutTo_39 ?_
                refine lv_iconst (v := 1) hx hb dX10_isAnotherAboutTo_42 (by decide) ?_
                refine lv_iadd hx hb dX10_isAnotherAboutTo_43 ?_
                refine lv_icmp_gt (tgt := 58) hx hb dX10_isAnotherAboutTo_44 (by decide) (fun c_15 => ?_) (fun c_15 => ?_)
                · have hF := zit c_15 hF
                  refine lv_iinc (v := x3_2 + (1 : Int32)) (lv' := [(3, .int (x3_2 + (1 : Int32))), (4, .ref a_7), (0, .ref a), (1, .ref (E.1 (13 + 11 * j))), (2, .int x2_1)]) hx hb dX10_isAnotherAboutTo_58 hl (k := 4) rfl rfl (by decide) rfl (fun ls hl => ?_)
                  refine lv_goto (tgt := 2) hx hb dX10_isAnotherAboutTo_61 (by decide) ?_
                  exact ih (x3_2 + (1 : Int32)) _ hF kx_1_0 kx_1_1 _ _ _ hP hD hS (lv_sub hl [2, 3, 4, 0] rfl)
                · have hF := zif c_15 hF
                  refine lv_aload_n hx hb dX10_isAnotherAboutTo_47 rfl (lv_at hl 2 rfl) ?_
                  refine lv_iload_n hx hb dX10_isAnotherAboutTo_48 rfl (lv_at hl 4 rfl) ?_
                  refine lv_iload_n hx hb dX10_isAnotherAboutTo_49 rfl (lv_at hl 3 rfl) ?_
                  have hrv_16 := (va_recv hK hP (ci := 3) (q0 := 13 + 11 * j) rfl (zg_L _ _ _ _ _ _ _ _ _ _ hj _))
                  obtain ⟨u_17, hu_17, hF⟩ := zbd hF
                  refine zcall_i (va_runV (As := [.int x3_2, .int x2_1]) (rest := []) ⟨hx, hb, hml, hown, hts⟩ (qX4_hasUnsold l D E KL kc on rw rd ft tr la mo j hj L_3 N _ x3_2 x2_1 _ hu_17) (cwV 2 hts (zgV k2_164 k2_130 k2_131 k0_6 k2_132) rfl rfl rfl (by decide +kernel) ⟨Nat.le_of_ble_eq_true rfl, Nat.le_of_ble_eq_true rfl⟩) (zpv hE hS hA hK hP hD hrv_16) rfl rfl hl.1 rfl (lv_room (Nat.le_of_ble_eq_true rfl)) dX10_isAnotherAboutTo_50 ⟨Nat.zero_le _, Nat.zero_le _⟩) hD hS hA (fun H locs hP hD hS => ?_)
                  refine lv_if_eq (tgt := 58) hx hb dX10_isAnotherAboutTo_53 (by decide) (fun c_18 => ?_) (fun c_18 => ?_)
                  · have hF := zit c_18 hF
                    refine lv_iinc (v := x3_2 + (1 : Int32)) (lv' := [(3, .int (x3_2 + (1 : Int32))), (4, .ref a_7), (0, .ref a), (1, .ref (E.1 (13 + 11 * j))), (2, .int x2_1)]) hx hb dX10_isAnotherAboutTo_58 hl (k := 4) rfl rfl (by decide) rfl (fun ls hl => ?_)
                    refine lv_goto (tgt := 2) hx hb dX10_isAnotherAboutTo_61 (by decide) ?_
                    exact ih (x3_2 + (1 : Int32)) _ hF kx_1_0 kx_1_1 _ _ _ hP hD hS (lv_sub hl [2, 3, 4, 0] rfl)
                  · have hF := zif c_18 hF
                    exact kx_1_1 (Option.some.inj hF) _ _ _ hP hD hS (lv_sub hl [] rfl)
            · have hF := zif kk_12 hF
              by_cases kk_19 : (kc a_7).1 = 1
              · have hF := zit kk_19 hF
                obtain ⟨q_20, hq_20⟩ := zg_K E KL kc on rw rd ft tr (va_up la j L_3) mo km_7 kk_19
                refine va_instY (C := RX1) hx hb hown (zh hts k2_163) hE.2.2.2.2.2.1 (va_recv hK hP (ci := 1) (q0 := q_20) rfl hq_20) dX10_isAnotherAboutTo_27 ?_
                refine lv_if_eq (tgt := 58) hx hb dX10_isAnotherAboutTo_30 (by decide) (fun c_21 => ?_) (fun c_21 => ?_)
                · exact absurd c_21 (by decide)
                · refine lv_aload hx hb dX10_isAnotherAboutTo_33 (lv_at hl 0 rfl) ?_
                  refine zgetK (v := (kc a_7).2.2.1) hx hb hts hown hK hP km_7 (by omega) 1 (by decide) (name := "n") rfl (zh hts k2_13) (fun _ h9 => h9) rfl dX10_isAnotherAboutTo_35 ?_
                  refine lv_aload_n hx hb dX10_isAnotherAboutTo_38 rfl (lv_at hl 2 rfl) ?_
                  refine va_get (D := D) (ci := 3) (v := .int (L_3.1.1 8)) (C := RX4) (T := TX4) (N := 19) hx hb hts (zi iX4) hown hK hP (13 + 11 * j) (zg_L _ _ _ _ _ _ _ _ _ _ hj _) rfl 8 (by decide) (zh hts k0_124) (fun _ h9 => h9) rfl dX10_isAnotherAboutTo_39 ?_
                  refine lv_iconst (v := 1) hx hb dX10_isAnotherAboutTo_42 (by decide) ?_
                  refine lv_iadd hx hb dX10_isAnotherAboutTo_43 ?_
                  refine lv_icmp_gt (tgt := 58) hx hb dX10_isAnotherAboutTo_44 (by decide) (fun c_22 => ?_) (fun c_22 => ?_)
                  · have hF := zit c_22 hF
                    refine lv_iinc (v := x3_2 + (1 : Int32)) (lv' := [(3, .int (x3_2 + (1 : Int32))), (4, .ref a_7), (0, .ref a), (1, .ref (E.1 (13 + 11 * j))), (2, .int x2_1)]) hx hb dX10_isAnotherAboutTo_58 hl (k := 4) rfl rfl (by decide) rfl (fun ls hl => ?_)
                    refine lv_goto (tgt := 2) hx hb dX10_isAnotherAboutTo_61 (by decide) ?_
                    exact ih (x3_2 + (1 : Int32)) _ hF kx_1_0 kx_1_1 _ _ _ hP hD hS (lv_sub hl [2, 3, 4, 0] rfl)
                  · have hF := zif c_22 hF
                    refine lv_aload_n hx hb dX10_isAnotherAboutTo_47 rfl (lv_at hl 2 rfl) ?_
                    refine lv_iload_n hx hb dX10_isAnotherAboutTo_48 rfl (lv_at hl 4 rfl) ?_
                    refine lv_iload_n hx hb dX10_isAnotherAboutTo_49 rfl (lv_at hl 3 rfl) ?_
                    have hrv_23 := (va_recv hK hP (ci := 3) (q0 := 13 + 11 * j) rfl (zg_L _ _ _ _ _ _ _ _ _ _ hj _))
                    obtain ⟨u_24, hu_24, hF⟩ := zbd hF
                    refine zcall_i (va_runV (As := [.int x3_2, .int x2_1]) (rest := []) ⟨hx, hb, hml, hown, hts⟩ (qX4_hasUnsold l D E KL kc on rw rd ft tr la mo j hj L_3 N _ x3_2 x2_1 _ hu_24) (cwV 2 hts (zgV k2_164 k2_130 k2_131 k0_6 k2_132) rfl rfl rfl (by decide +kernel) ⟨Nat.le_of_ble_eq_true rfl, Nat.le_of_ble_eq_true rfl⟩) (zpv hE hS hA hK hP hD hrv_23) rfl rfl hl.1 rfl (lv_room (Nat.le_of_ble_eq_true rfl)) dX10_isAnotherAboutTo_50 ⟨Nat.zero_le _, Nat.zero_le _⟩) hD hS hA (fun H locs hP hD hS => ?_)
                    refine lv_if_eq (tgt := 58) hx hb dX10_isAnotherAboutTo_53 (by decide) (fun c_25 => ?_) (fun c_25 => ?_)
                    · have hF := zit c_25 hF
                      refine lv_iinc (v := x3_2 + (1 : Int32)) (lv' := [(3, .int (x3_2 + (1 : Int32))), (4, .ref a_7), (0, .ref a), (1, .ref (E.1 (13 + 11 * j))), (2, .int x2_1)]) hx hb dX10_isAnotherAboutTo_58 hl (k := 4) rfl rfl (by decide) rfl (fun ls hl => ?_)
                      refine lv_goto (tgt := 2) hx hb dX10_isAnotherAboutTo_61 (by decide) ?_
                      exact ih (x3_2 + (1 : Int32)) _ hF kx_1_0 kx_1_1 _ _ _ hP hD hS (lv_sub hl [2, 3, 4, 0] rfl)
                    · have hF := zif c_25 hF
                      exact kx_1_1 (Option.some.inj hF) _ _ _ hP hD hS (lv_sub hl [] rfl)
              · have hF := zif kk_19 hF
                by_cases kk_26 : (kc a_7).1 = 4
                · have hF := zit kk_26 hF
                  obtain ⟨q_27, hq_27⟩ := zg_K E KL kc on rw rd ft tr (va_up la j L_3) mo km_7 kk_26
                  refine va_instNo (C := RX5) hx hb hown (zh hts k2_163) hE.2.2.2.2.2.2.2.1 (va_recv hK hP (ci := 4) (q0 := q_27) rfl hq_27) dX10_isAnotherAboutTo_27 ?_
                  refine lv_if_eq (tgt := 58) hx hb dX10_isAnotherAboutTo_30 (by decide) (fun c_28 => ?_) (fun c_28 => ?_)
                  · refine lv_iinc (v := x3_2 + (1 : Int32)) (lv' := [(3, .int (x3_2 + (1 : Int32))), (4, .ref a_7), (0, .ref a), (1, .ref (E.1 (13 + 11 * j))), (2, .int x2_1)]) hx hb dX10_isAnotherAboutTo_58 hl (k := 4) rfl rfl (by decide) rfl (fun ls hl => ?_)
                    refine lv_goto (tgt := 2) hx hb dX10_isAnotherAboutTo_61 (by decide) ?_
                    exact ih (x3_2 + (1 : Int32)) _ hF kx_1_0 kx_1_1 _ _ _ hP hD hS (lv_sub hl [2, 3, 4, 0] rfl)
                  · exact absurd (by decide) c_28
                · have hF := zif kk_26 hF
                  by_cases kk_29 : (kc a_7).1 = 7
                  · have hF := zit kk_29 hF
                    obtain ⟨q_30, hq_30⟩ := zg_K E KL kc on rw rd ft tr (va_up la j L_3) mo km_7 kk_29
                    refine va_instNo (C := RX8) hx hb hown (zh hts k2_163) hE.2.2.2.2.2.2.2.2.1 (va_recv hK hP (ci := 7) (q0 := q_30) rfl hq_30) dX10_isAnotherAboutTo_27 ?_
                    refine lv_if_eq (tgt := 58) hx hb dX10_isAnotherAboutTo_30 (by decide) (fun c_31 => ?_) (fun c_31 => ?_)
                    · refine lv_iinc (v := x3_2 + (1 : Int32)) (lv' := [(3, .int (x3_2 + (1 : Int32))), (4, .ref a_7), (0, .ref a), (1, .ref (E.1 (13 + 11 * j))), (2, .int x2_1)]) hx hb dX10_isAnotherAboutTo_58 hl (k := 4) rfl rfl (by decide) rfl (fun ls hl => ?_)
                      refine lv_goto (tgt := 2) hx hb dX10_isAnotherAboutTo_61 (by decide) ?_
                      exact ih (x3_2 + (1 : Int32)) _ hF kx_1_0 kx_1_1 _ _ _ hP hD hS (lv_sub hl [2, 3, 4, 0] rfl)
                    · exact absurd (by decide) c_31
                  · have hF := zif kk_29 hF
                    by_cases kk_32 : (kc a_7).1 = 9
                    · have hF := zit kk_32 hF
                      obtain ⟨q_33, hq_33⟩ := zg_K E KL kc on rw rd ft tr (va_up la j L_3) mo km_7 kk_32
                      refine va_instY (C := RX10) hx hb hown (zh hts k2_163) hE.2.2.2.2.2.2.1 (va_recv hK hP (ci := 9) (q0 := q_33) rfl hq_33) dX10_isAnotherAboutTo_27 ?_
                      refine lv_if_eq (tgt := 58) hx hb dX10_isAnotherAboutTo_30 (by decide) (fun c_34 => ?_) (fun c_34 => ?_)
                      · exact absurd c_34 (by decide)
                      · refine lv_aload hx hb dX10_isAnotherAboutTo_33 (lv_at hl 0 rfl) ?_
                        refine zgetK (v := (kc a_7).2.2.1) hx hb hts hown hK hP km_7 (by omega) 1 (by decide) (name := "n") rfl (zh hts k2_13) (fun _ h9 => h9) rfl dX10_isAnotherAboutTo_35 ?_
                        refine lv_aload_n hx hb dX10_isAnotherAboutTo_38 rfl (lv_at hl 2 rfl) ?_
                        refine va_get (D := D) (ci := 3) (v := .int (L_3.1.1 8)) (C := RX4) (T := TX4) (N := 19) hx hb hts (zi iX4) hown hK hP (13 + 11 * j) (zg_L _ _ _ _ _ _ _ _ _ _ hj _) rfl 8 (by decide) (zh hts k0_124) (fun _ h9 => h9) rfl dX10_isAnotherAboutTo_39 ?_
                        refine lv_iconst (v := 1) hx hb dX10_isAnotherAboutTo_42 (by decide) ?_
                        refine lv_iadd hx hb dX10_isAnotherAboutTo_43 ?_
                        refine lv_icmp_gt (tgt := 58) hx hb dX10_isAnotherAboutTo_44 (by decide) (fun c_35 => ?_) (fun c_35 => ?_)
                        · have hF := zit c_35 hF
                          refine lv_iinc (v := x3_2 + (1 : Int32)) (lv' := [(3, .int (x3_2 + (1 : Int32))), (4, .ref a_7), (0, .ref a), (1, .ref (E.1 (13 + 11 * j))), (2, .int x2_1)]) hx hb dX10_isAnotherAboutTo_58 hl (k := 4) rfl rfl (by decide) rfl (fun ls hl => ?_)
                          refine lv_goto (tgt := 2) hx hb dX10_isAnotherAboutTo_61 (by decide) ?_
                          exact ih (x3_2 + (1 : Int32)) _ hF kx_1_0 kx_1_1 _ _ _ hP hD hS (lv_sub hl [2, 3, 4, 0] rfl)
                        · have hF := zif c_35 hF
                          refine lv_aload_n hx hb dX10_isAnotherAboutTo_47 rfl (lv_at hl 2 rfl) ?_
                          refine lv_iload_n hx hb dX10_isAnotherAboutTo_48 rfl (lv_at hl 4 rfl) ?_
                          refine lv_iload_n hx hb dX10_isAnotherAboutTo_49 rfl (lv_at hl 3 rfl) ?_
                          have hrv_36 := (va_recv hK hP (ci := 3) (q0 := 13 + 11 * j) rfl (zg_L _ _ _ _ _ _ _ _ _ _ hj _))
                          obtain ⟨u_37, hu_37, hF⟩ := zbd hF
                          refine zcall_i (va_runV (As := [.int x3_2, .int x2_1]) (rest := []) ⟨hx, hb, hml, hown, hts⟩ (qX4_hasUnsold l D E KL kc on rw rd ft tr la mo j hj L_3 N _ x3_2 x2_1 _ hu_37) (cwV 2 hts (zgV k2_164 k2_130 k2_131 k0_6 k2_132) rfl rfl rfl (by decide +kernel) ⟨Nat.le_of_ble_eq_true rfl, Nat.le_of_ble_eq_true rfl⟩) (zpv hE hS hA hK hP hD hrv_36) rfl rfl hl.1 rfl (lv_room (Nat.le_of_ble_eq_true rfl)) dX10_isAnotherAboutTo_50 ⟨Nat.zero_le _, Nat.zero_le _⟩) hD hS hA (fun H locs hP hD hS => ?_)
                          refine lv_if_eq (tgt := 58) hx hb dX10_isAnotherAboutTo_53 (by decide) (fun c_38 => ?_) (fun c_38 => ?_)
                          · have hF := zit c_38 hF
                            refine lv_iinc (v := x3_2 + (1 : Int32)) (lv' := [(3, .int (x3_2 + (1 : Int32))), (4, .ref a_7), (0, .ref a), (1, .ref (E.1 (13 + 11 * j))), (2, .int x2_1)]) hx hb dX10_isAnotherAboutTo_58 hl (k := 4) rfl rfl (by decide) rfl (fun ls hl => ?_)
                            refine lv_goto (tgt := 2) hx hb dX10_isAnotherAboutTo_61 (by decide) ?_
                            exact ih (x3_2 + (1 : Int32)) _ hF kx_1_0 kx_1_1 _ _ _ hP hD hS (lv_sub hl [2, 3, 4, 0] rfl)
                          · have hF := zif c_38 hF
                            exact kx_1_1 (Option.some.inj hF) _ _ _ hP hD hS (lv_sub hl [] rfl)
                    · have hF := zif kk_32 hF
                      exact znone hF
  exact lp_1 L x2 N (0 : Int32) _ ho_40 kx_1_0 kx_1_1 _ _ _ hP hD hS (lv_sub hl [1, 2, 3, 0] rfl)
def fX1_sells (N : Nat) (kc : Nat → zKC) (L : zLS) (a : Nat) (x2 : Int32) : Option Int32 :=
  (fX0_sells N kc L a x2).bind fun u_1 =>
  if u_1 = 0 then
    (fX4_countOf N L ((kc a).2.1) x2).bind fun u_5 =>
    if u_5 = (1 : Int32) then
      some (1 : Int32)
    else
      some (0 : Int32)
  else
    some (1 : Int32)
set_option maxHeartbeats 4000000 in
set_option maxRecDepth 100000 in
theorem qX1_sells (l : Launch) (D : va_G) (E : zE) (KL : List Nat) (kc : Nat → zKC) (on : zNS) (rw rd ft tr : zOS) (la : Nat → zLS) (mo : zMS) (j : Nat) (hj : j < 5) (L : zLS) (a : Nat) (ha : a ∈ KL) (hk : (kc a).1 = 1) (N sz : Nat) (x2 : Int32) (out : Int32) (hF : fX1_sells N kc L a x2 = some out) : zCi l yX1_sells zwX1_sells ({ frames := 1, cells := 0, slots := 0, locals := 23 }) [.ref a, .ref (E.1 (13 + 11 * j)), .int x2] D E sz (zW E KL kc on rw rd ft tr (va_up la j L) mo) (zW E KL kc on rw rd ft tr (va_up la j L) mo) out 0 0 := by
  refine zent_z (cc := cX1_sells) (nL := 3) (by decide) rfl (Nat.le_of_ble_eq_true rfl) ?_
  intro p e s m args below meth c Q A hx hb hml hown hts hA hK hP hD hS hE ls hl hend
  have hown : s.vm.findClass RX1 = some m.cls := hown
  have hl : lv_has ls 3 [(0, .ref a), (1, .ref (E.1 (13 + 11 * j))), (2, .int x2)] := hl
  rw [fX1_sells] at hF
  refine lv_aload_n hx hb dX1_sells_0 rfl (lv_at hl 0 rfl) ?_
  refine lv_aload_n hx hb dX1_sells_1 rfl (lv_at hl 1 rfl) ?_
  refine lv_iload_n hx hb dX1_sells_2 rfl (lv_at hl 2 rfl) ?_
  obtain ⟨u_1, hu_1, hF⟩ := zbd hF
  obtain ⟨C_t_2, cC_t_2, hat_t_2, hrc_t_2⟩ := zrK E KL kc on rw rd ft tr (va_up la j L) mo hK hP ha (by omega)
  refine zcall_i (va_runSU (As := [.ref (E.1 (13 + 11 * j)), .int x2]) (rest := []) hat_t_2 ⟨hx, hb, hml, hown, hts⟩ (qX0_sells l D E KL kc on rw rd ft tr la mo j hj L a ha (by omega) N _ x2 _ hu_1) (va_cwSU 2 hts (zgSU k2_146 k6_35 k2_53 k2_141 k0_17 k2_142) rfl rfl rfl (by decide +kernel) ⟨Nat.le_of_ble_eq_true rfl, Nat.le_of_ble_eq_true rfl⟩) (zpv hE hS hA hK hP hD hrc_t_2) rfl rfl hl.1 rfl (lv_room (Nat.le_of_ble_eq_true rfl)) dX1_sells_3 ⟨Nat.zero_le _, Nat.zero_le _⟩) hD hS hA (fun H locs hP hD hS => ?_)
  refine lv_if_ne (tgt := 22) hx hb dX1_sells_6 (by decide) (fun c_3 => ?_) (fun c_3 => ?_)
  · have hF := zif c_3 hF
    refine lv_iconst (v := 1) hx hb dX1_sells_22 (by decide) ?_
    refine lv_goto (tgt := 27) hx hb dX1_sells_23 (by decide) ?_
    obtain rfl := Option.some.inj hF
    exact hend _ _ _ _ znar1 hP hD hS dX1_sells_27
  · have hF := zit c_3 hF
    refine lv_aload_n hx hb dX1_sells_9 rfl (lv_at hl 1 rfl) ?_
    refine lv_aload_n hx hb dX1_sells_10 rfl (lv_at hl 0 rfl) ?_
    refine zgetK (v := (kc a).2.1) hx hb hts hown hK hP ha (by omega) 0 (by decide) (name := "index") rfl (zh hts k2_6) (u_same (zh hts k2_7)) rfl dX1_sells_11 ?_
    refine lv_iload_n hx hb dX1_sells_14 rfl (lv_at hl 2 rfl) ?_
    have hrv_4 := (va_recv hK hP (ci := 3) (q0 := 13 + 11 * j) rfl (zg_L _ _ _ _ _ _ _ _ _ _ hj _))
    obtain ⟨u_5, hu_5, hF⟩ := zbd hF
    refine zcall_i (va_runV (As := [.int ((kc a).2.1), .int x2]) (rest := []) ⟨hx, hb, hml, hown, hts⟩ (qX4_countOf l D E KL kc on rw rd ft tr la mo j hj L N _ ((kc a).2.1) x2 _ hu_5) (cwV 2 hts (zgV k2_147 k2_134 k2_135 k0_6 k2_136) rfl rfl rfl (by decide +kernel) ⟨Nat.le_of_ble_eq_true rfl, Nat.le_of_ble_eq_true rfl⟩) (zpv hE hS hA hK hP hD hrv_4) rfl rfl hl.1 rfl (lv_room (Nat.le_of_ble_eq_true rfl)) dX1_sells_15 ⟨Nat.zero_le _, Nat.zero_le _⟩) hD hS hA (fun H locs hP hD hS => ?_)
    refine lv_iconst (v := 1) hx hb dX1_sells_18 (by decide) ?_
    refine lv_icmp_ne (tgt := 26) hx hb dX1_sells_19 (by decide) (fun c_6 => ?_) (fun c_6 => ?_)
    · have hF := zif c_6 hF
      refine lv_iconst (v := 0) hx hb dX1_sells_26 (by decide) ?_
      obtain rfl := Option.some.inj hF
      exact hend _ _ _ _ znar0 hP hD hS dX1_sells_27
    · have hF := zit c_6 hF
      refine lv_iconst (v := 1) hx hb dX1_sells_22 (by decide) ?_
      refine lv_goto (tgt := 27) hx hb dX1_sells_23 (by decide) ?_
      obtain rfl := Option.some.inj hF
      exact hend _ _ _ _ znar1 hP hD hS dX1_sells_27
def fX3_isOf (N : Nat) (kc : Nat → zKC) (a : Nat) (x1 : Int32) : Option Int32 :=
  if x1 = 0 then
    some (1 : Int32)
  else
    if (kc a).1 = 0 then
      (fX0_kindTold N a).bind fun u_3 =>
      if x1 = u_3 then
        some (1 : Int32)
      else
        some (0 : Int32)
    else if (kc a).1 = 1 then
      (fX1_kindTold N a).bind fun u_7 =>
      if x1 = u_7 then
        some (1 : Int32)
      else
        some (0 : Int32)
    else if (kc a).1 = 4 then
      (fX5_kindTold N a).bind fun u_11 =>
      if x1 = u_11 then
        some (1 : Int32)
      else
        some (0 : Int32)
    else if (kc a).1 = 7 then
      (fX8_kindTold N a).bind fun u_15 =>
      if x1 = u_15 then
        some (1 : Int32)
      else
        some (0 : Int32)
    else if (kc a).1 = 9 then
      (fX10_kindTold N a).bind fun u_19 =>
      if x1 = u_19 then
        some (1 : Int32)
      else
        some (0 : Int32)
    else none
set_option maxHeartbeats 4000000 in
set_option maxRecDepth 100000 in
theorem qX3_isOf (l : Launch) (D : va_G) (E : zE) (KL : List Nat) (kc : Nat → zKC) (on : zNS) (rw rd ft tr : zOS) (la : Nat → zLS) (mo : zMS) (a : Nat) (ha : a ∈ KL) (hk : (kc a).1 = 0 ∨ (kc a).1 = 1 ∨ (kc a).1 = 4 ∨ (kc a).1 = 7 ∨ (kc a).1 = 9) (N sz : Nat) (x1 : Int32) (out : Int32) (hF : fX3_isOf N kc a x1 = some out) : zCi l yX3_isOf zwX3_isOf ({ frames := 1, cells := 0, slots := 0, locals := 20 }) [.ref a, .int x1] D E sz (zW E KL kc on rw rd ft tr la mo) (zW E KL kc on rw rd ft tr la mo) out 0 0 := by
  refine zent_z (cc := cX3_isOf) (nL := 2) (by decide) rfl (Nat.le_of_ble_eq_true rfl) ?_
  intro p e s m args below meth c Q A hx hb hml hown hts hA hK hP hD hS hE ls hl hend
  have hown : s.vm.findClass RX3 = some m.cls := hown
  have hl : lv_has ls 2 [(0, .ref a), (1, .int x1)] := hl
  rw [fX3_isOf] at hF
  refine lv_iload_n hx hb dX3_isOf_0 rfl (lv_at hl 1 rfl) ?_
  refine lv_if_eq (tgt := 12) hx hb dX3_isOf_1 (by decide) (fun c_1 => ?_) (fun c_1 => ?_)
  · have hF := zit c_1 hF
    refine lv_iconst (v := 1) hx hb dX3_isOf_12 (by decide) ?_
    refine lv_goto (tgt := 17) hx hb dX3_isOf_13 (by decide) ?_
    obtain rfl := Option.some.inj hF
    exact hend _ _ _ _ znar1 hP hD hS dX3_isOf_17
  · have hF := zif c_1 hF
    refine lv_iload_n hx hb dX3_isOf_4 rfl (lv_at hl 1 rfl) ?_
    refine lv_aload_n hx hb dX3_isOf_5 rfl (lv_at hl 0 rfl) ?_
    by_cases kk_2 : (kc a).1 = 0
    · have hF := zit kk_2 hF
      obtain ⟨u_3, hu_3, hF⟩ := zbd hF
      obtain ⟨q_4, hq_4⟩ := zg_K E KL kc on rw rd ft tr la mo ha kk_2
      refine zcall_i (va_runU (As := []) (rest := [.int x1]) ⟨hx, hb, hml, hown, hts⟩ (qX0_kindTold l D E KL kc on rw rd ft tr la mo a ha (by omega) N _ _ hu_3) (va_cwA 0 hts (zgU k3_213 k3_181 k3_182 k3_183 k0_17 k3_184) rfl rfl rfl (hE.2.2.2.2.2.2.2.2.2.2.1) (by decide +kernel) ⟨Nat.le_of_ble_eq_true rfl, Nat.le_of_ble_eq_true rfl⟩) (zpv hE hS hA hK hP hD (va_recv hK hP (ci := 0) (q0 := q_4) rfl hq_4)) rfl rfl hl.1 rfl (lv_room (Nat.le_of_ble_eq_true rfl)) dX3_isOf_6 ⟨Nat.zero_le _, Nat.zero_le _⟩) hD hS hA (fun H locs hP hD hS => ?_)
      refine lv_icmp_ne (tgt := 16) hx hb dX3_isOf_9 (by decide) (fun c_5 => ?_) (fun c_5 => ?_)
      · have hF := zif c_5 hF
        refine lv_iconst (v := 0) hx hb dX3_isOf_16 (by decide) ?_
        obtain rfl := Option.some.inj hF
        exact hend _ _ _ _ znar0 hP hD hS dX3_isOf_17
      · have hF := zit c_5 hF
        refine lv_iconst (v := 1) hx hb dX3_isOf_12 (by decide) ?_
        refine lv_goto (tgt := 17) hx hb dX3_isOf_13 (by decide) ?_
        obtain rfl := Option.some.inj hF
        exact hend _ _ _ _ znar1 hP hD hS dX3_isOf_17
    · have hF := zif kk_2 hF
      by_cases kk_6 : (kc a).1 = 1
      · have hF := zit kk_6 hF
        obtain ⟨u_7, hu_7, hF⟩ := zbd hF
        obtain ⟨q_8, hq_8⟩ := zg_K E KL kc on rw rd ft tr la mo ha kk_6
        refine zcall_i (va_runU (As := []) (rest := [.int x1]) ⟨hx, hb, hml, hown, hts⟩ (qX1_kindTold l D E KL kc on rw rd ft tr la mo a ha (by omega) N _ _ hu_7) (va_cwA 0 hts (zgU k3_213 k3_181 k3_185 k3_186 k0_19 k3_187) rfl rfl rfl (hE.2.2.2.2.2.2.2.2.2.2.1) (by decide +kernel) ⟨Nat.le_of_ble_eq_true rfl, Nat.le_of_ble_eq_true rfl⟩) (zpv hE hS hA hK hP hD (va_recv hK hP (ci := 1) (q0 := q_8) rfl hq_8)) rfl rfl hl.1 rfl (lv_room (Nat.le_of_ble_eq_true rfl)) dX3_isOf_6 ⟨Nat.zero_le _, Nat.zero_le _⟩) hD hS hA (fun H locs hP hD hS => ?_)
        refine lv_icmp_ne (tgt := 16) hx hb dX3_isOf_9 (by decide) (fun c_9 => ?_) (fun c_9 => ?_)
        · have hF := zif c_9 hF
          refine lv_iconst (v := 0) hx hb dX3_isOf_16 (by decide) ?_
          obtain rfl := Option.some.inj hF
          exact hend _ _ _ _ znar0 hP hD hS dX3_isOf_17
        · have hF := zit c_9 hF
          refine lv_iconst (v := 1) hx hb dX3_isOf_12 (by decide) ?_
          refine lv_goto (tgt := 17) hx hb dX3_isOf_13 (by decide) ?_
          obtain rfl := Option.some.inj hF
          exact hend _ _ _ _ znar1 hP hD hS dX3_isOf_17
      · have hF := zif kk_6 hF
        by_cases kk_10 : (kc a).1 = 4
        · have hF := zit kk_10 hF
          obtain ⟨u_11, hu_11, hF⟩ := zbd hF
          obtain ⟨q_12, hq_12⟩ := zg_K E KL kc on rw rd ft tr la mo ha kk_10
          refine zcall_i (va_runU (As := []) (rest := [.int x1]) ⟨hx, hb, hml, hown, hts⟩ (qX5_kindTold l D E KL kc on rw rd ft tr la mo a ha (by omega) N _ _ hu_11) (va_cwA 0 hts (zgU k3_213 k3_181 k3_188 k3_189 k0_16 k3_190) rfl rfl rfl (hE.2.2.2.2.2.2.2.2.2.2.1) (by decide +kernel) ⟨Nat.le_of_ble_eq_true rfl, Nat.le_of_ble_eq_true rfl⟩) (zpv hE hS hA hK hP hD (va_recv hK hP (ci := 4) (q0 := q_12) rfl hq_12)) rfl rfl hl.1 rfl (lv_room (Nat.le_of_ble_eq_true rfl)) dX3_isOf_6 ⟨Nat.zero_le _, Nat.zero_le _⟩) hD hS hA (fun H locs hP hD hS => ?_)
          refine lv_icmp_ne (tgt := 16) hx hb dX3_isOf_9 (by decide) (fun c_13 => ?_) (fun c_13 => ?_)
          · have hF := zif c_13 hF
            refine lv_iconst (v := 0) hx hb dX3_isOf_16 (by decide) ?_
            obtain rfl := Option.some.inj hF
            exact hend _ _ _ _ znar0 hP hD hS dX3_isOf_17
          · have hF := zit c_13 hF
            refine lv_iconst (v := 1) hx hb dX3_isOf_12 (by decide) ?_
            refine lv_goto (tgt := 17) hx hb dX3_isOf_13 (by decide) ?_
            obtain rfl := Option.some.inj hF
            exact hend _ _ _ _ znar1 hP hD hS dX3_isOf_17
        · have hF := zif kk_10 hF
          by_cases kk_14 : (kc a).1 = 7
          · have hF := zit kk_14 hF
            obtain ⟨u_15, hu_15, hF⟩ := zbd hF
            obtain ⟨q_16, hq_16⟩ := zg_K E KL kc on rw rd ft tr la mo ha kk_14
            refine zcall_i (va_runU (As := []) (rest := [.int x1]) ⟨hx, hb, hml, hown, hts⟩ (qX8_kindTold l D E KL kc on rw rd ft tr la mo a ha (by omega) N _ _ hu_15) (va_cwA 0 hts (zgU k3_213 k3_181 k3_191 k3_192 k0_20 k3_193) rfl rfl rfl (hE.2.2.2.2.2.2.2.2.2.2.1) (by decide +kernel) ⟨Nat.le_of_ble_eq_true rfl, Nat.le_of_ble_eq_true rfl⟩) (zpv hE hS hA hK hP hD (va_recv hK hP (ci := 7) (q0 := q_16) rfl hq_16)) rfl rfl hl.1 rfl (lv_room (Nat.le_of_ble_eq_true rfl)) dX3_isOf_6 ⟨Nat.zero_le _, Nat.zero_le _⟩) hD hS hA (fun H locs hP hD hS => ?_)
            refine lv_icmp_ne (tgt := 16) hx hb dX3_isOf_9 (by decide) (fun c_17 => ?_) (fun c_17 => ?_)
            · have hF := zif c_17 hF
              refine lv_iconst (v := 0) hx hb dX3_isOf_16 (by decide) ?_
              obtain rfl := Option.some.inj hF
              exact hend _ _ _ _ znar0 hP hD hS dX3_isOf_17
            · have hF := zit c_17 hF
              refine lv_iconst (v := 1) hx hb dX3_isOf_12 (by decide) ?_
              refine lv_goto (tgt := 17) hx hb dX3_isOf_13 (by decide) ?_
              obtain rfl := Option.some.inj hF
              exact hend _ _ _ _ znar1 hP hD hS dX3_isOf_17
          · have hF := zif kk_14 hF
            by_cases kk_18 : (kc a).1 = 9
            · have hF := zit kk_18 hF
              obtain ⟨u_19, hu_19, hF⟩ := zbd hF
              obtain ⟨q_20, hq_20⟩ := zg_K E KL kc on rw rd ft tr la mo ha kk_18
              refine zcall_i (va_runU (As := []) (rest := [.int x1]) ⟨hx, hb, hml, hown, hts⟩ (qX10_kindTold l D E KL kc on rw rd ft tr la mo a ha (by omega) N _ _ hu_19) (va_cwA 0 hts (zgU k3_213 k3_181 k3_194 k3_195 k0_18 k3_196) rfl rfl rfl (hE.2.2.2.2.2.2.2.2.2.2.1) (by decide +kernel) ⟨Nat.le_of_ble_eq_true rfl, Nat.le_of_ble_eq_true rfl⟩) (zpv hE hS hA hK hP hD (va_recv hK hP (ci := 9) (q0 := q_20) rfl hq_20)) rfl rfl hl.1 rfl (lv_room (Nat.le_of_ble_eq_true rfl)) dX3_isOf_6 ⟨Nat.zero_le _, Nat.zero_le _⟩) hD hS hA (fun H locs hP hD hS => ?_)
              refine lv_icmp_ne (tgt := 16) hx hb dX3_isOf_9 (by decide) (fun c_21 => ?_) (fun c_21 => ?_)
              · have hF := zif c_21 hF
                refine lv_iconst (v := 0) hx hb dX3_isOf_16 (by decide) ?_
                obtain rfl := Option.some.inj hF
                exact hend _ _ _ _ znar0 hP hD hS dX3_isOf_17
              · have hF := zit c_21 hF
                refine lv_iconst (v := 1) hx hb dX3_isOf_12 (by decide) ?_
                refine lv_goto (tgt := 17) hx hb dX3_isOf_13 (by decide) ?_
                obtain rfl := Option.some.inj hF
                exact hend _ _ _ _ znar1 hP hD hS dX3_isOf_17
            · have hF := zif kk_18 hF
              exact znone hF
def fX3_sizeAsked (N : Nat) (kc : Nat → zKC) (tr : zOS) (L : zLS) (a : Nat) : Option (Int32 × zOS) :=
  (fX9_leave N tr (10 : Int32)).bind fun u_1 =>
  (fX4_earnedBy N L ((kc a).2.1)).bind fun u_3 =>
  some (u_3, u_1)
set_option maxHeartbeats 4000000 in
set_option maxRecDepth 100000 in
theorem qX3_sizeAsked (l : Launch) (D : va_G) (E : zE) (KL : List Nat) (kc : Nat → zKC) (on : zNS) (rw rd ft tr : zOS) (la : Nat → zLS) (mo : zMS) (j : Nat) (hj : j < 5) (L : zLS) (a : Nat) (ha : a ∈ KL) (hk : (kc a).1 = 0 ∨ (kc a).1 = 1 ∨ (kc a).1 = 4 ∨ (kc a).1 = 7 ∨ (kc a).1 = 9) (N sz : Nat)  (out : Int32 × zOS) (hF : fX3_sizeAsked N kc tr L a = some out) : zCi l yX3_sizeAsked zwX3_sizeAsked ({ frames := 2, cells := 0, slots := 0, locals := 42 }) [.ref a, .ref (E.1 (13 + 11 * j)), .ref (E.1 11)] D E sz (zW E KL kc on rw rd ft tr (va_up la j L) mo) (zW E KL kc on rw rd ft out.2 (va_up la j L) mo) out.1 0 0 := by
  refine zent_i (cc := cX3_sizeAsked) (nL := 3) (by decide) rfl (Nat.le_of_ble_eq_true rfl) ?_
  intro p e s m args below meth c Q A hx hb hml hown hts hA hK hP hD hS hE ls hl hend
  have hown : s.vm.findClass RX3 = some m.cls := hown
  have hl : lv_has ls 3 [(0, .ref a), (1, .ref (E.1 (13 + 11 * j))), (2, .ref (E.1 11))] := hl
  rw [fX3_sizeAsked] at hF
  refine lv_aload_n hx hb dX3_sizeAsked_0 rfl (lv_at hl 2 rfl) ?_
  refine lv_bipush (v := 10) hx hb dX3_sizeAsked_1 (by decide) ?_
  obtain ⟨u_1, hu_1, hF⟩ := zbd hF
  refine zcall_v (va_runV (As := [.int (10 : Int32)]) (rest := []) ⟨hx, hb, hml, hown, hts⟩ (qX9_leave l D E KL kc on rw rd ft tr (va_up la j L) mo N _ (10 : Int32) _ hu_1) (cwV 1 hts (zgV k4_7 k3_229 k3_230 k0_7 k3_231) rfl rfl rfl (by decide +kernel) ⟨Nat.le_of_ble_eq_true rfl, Nat.le_of_ble_eq_true rfl⟩) (zpv hE hS hA hK hP hD (va_recv hK hP (ci := 8) (q0 := 11) rfl (zg_tr _ _ _ _ _ _ _ _ _ _))) rfl rfl hl.1 rfl (lv_room (Nat.le_of_ble_eq_true rfl)) dX3_sizeAsked_3 ⟨Nat.zero_le _, Nat.zero_le _⟩) hD hS hA (fun H locs hP hD hS => ?_)
  refine lv_aload_n hx hb dX3_sizeAsked_6 rfl (lv_at hl 1 rfl) ?_
  refine lv_aload_n hx hb dX3_sizeAsked_7 rfl (lv_at hl 0 rfl) ?_
  refine zgetK (v := (kc a).2.1) hx hb hts hown hK hP ha (by omega) 0 (by decide) (name := "index") rfl (zh hts k2_5) (fun _ h9 => h9) rfl dX3_sizeAsked_8 ?_
  have hrv_2 := (va_recv hK hP (ci := 3) (q0 := 13 + 11 * j) rfl (zg_L _ _ _ _ _ _ _ _ _ _ hj _))
  obtain ⟨u_3, hu_3, hF⟩ := zbd hF
  refine zcall_i (va_runV (As := [.int ((kc a).2.1)]) (rest := []) ⟨hx, hb, hml, hown, hts⟩ (qX4_earnedBy l D E KL kc on rw rd ft u_1 la mo j hj L N _ ((kc a).2.1) _ hu_3) (cwV 1 hts (zgV k4_25 k2_224 k2_225 k0_6 k2_226) rfl rfl rfl (by decide +kernel) ⟨Nat.le_of_ble_eq_true rfl, Nat.le_of_ble_eq_true rfl⟩) (zpv hE hS hA hK hP hD hrv_2) rfl rfl hl.1 rfl (lv_room (Nat.le_of_ble_eq_true rfl)) dX3_sizeAsked_11 ⟨Nat.zero_le _, Nat.zero_le _⟩) hD hS hA (fun H locs hP hD hS => ?_)
  obtain rfl := Option.some.inj hF
  exact hend _ _ _ _ hP hD hS dX3_sizeAsked_14
def fX3_markAsked (N : Nat) (kc : Nat → zKC) (tr : zOS) (a : Nat) : Option (Int32 × zOS) :=
  (fX9_leave N tr (20 : Int32)).bind fun u_1 =>
  some ((kc a).2.1, u_1)
set_option maxHeartbeats 4000000 in
set_option maxRecDepth 100000 in
theorem qX3_markAsked (l : Launch) (D : va_G) (E : zE) (KL : List Nat) (kc : Nat → zKC) (on : zNS) (rw rd ft tr : zOS) (la : Nat → zLS) (mo : zMS) (j : Nat) (hj : j < 5) (L : zLS) (a : Nat) (ha : a ∈ KL) (hk : (kc a).1 = 0 ∨ (kc a).1 = 1 ∨ (kc a).1 = 4 ∨ (kc a).1 = 7 ∨ (kc a).1 = 9) (N sz : Nat)  (out : Int32 × zOS) (hF : fX3_markAsked N kc tr a = some out) : zCi l yX3_markAsked zwX3_markAsked ({ frames := 1, cells := 0, slots := 0, locals := 21 }) [.ref a, .ref (E.1 (13 + 11 * j)), .ref (E.1 11)] D E sz (zW E KL kc on rw rd ft tr (va_up la j L) mo) (zW E KL kc on rw rd ft out.2 (va_up la j L) mo) out.1 0 0 := by
  refine zent_i (cc := cX3_markAsked) (nL := 3) (by decide) rfl (Nat.le_of_ble_eq_true rfl) ?_
  intro p e s m args below meth c Q A hx hb hml hown hts hA hK hP hD hS hE ls hl hend
  have hown : s.vm.findClass RX3 = some m.cls := hown
  have hl : lv_has ls 3 [(0, .ref a), (1, .ref (E.1 (13 + 11 * j))), (2, .ref (E.1 11))] := hl
  rw [fX3_markAsked] at hF
  refine lv_aload_n hx hb dX3_markAsked_0 rfl (lv_at hl 2 rfl) ?_
  refine lv_bipush (v := 20) hx hb dX3_markAsked_1 (by decide) ?_
  obtain ⟨u_1, hu_1, hF⟩ := zbd hF
  refine zcall_v (va_runV (As := [.int (20 : Int32)]) (rest := []) ⟨hx, hb, hml, hown, hts⟩ (qX9_leave l D E KL kc on rw rd ft tr (va_up la j L) mo N _ (20 : Int32) _ hu_1) (cwV 1 hts (zgV k4_7 k3_229 k3_230 k0_7 k3_231) rfl rfl rfl (by decide +kernel) ⟨Nat.le_of_ble_eq_true rfl, Nat.le_of_ble_eq_true rfl⟩) (zpv hE hS hA hK hP hD (va_recv hK hP (ci := 8) (q0 := 11) rfl (zg_tr _ _ _ _ _ _ _ _ _ _))) rfl rfl hl.1 rfl (lv_room (Nat.le_of_ble_eq_true rfl)) dX3_markAsked_3 ⟨Nat.zero_le _, Nat.zero_le _⟩) hD hS hA (fun H locs hP hD hS => ?_)
  refine lv_aload_n hx hb dX3_markAsked_6 rfl (lv_at hl 0 rfl) ?_
  refine zgetK (v := (kc a).2.1) hx hb hts hown hK hP ha (by omega) 0 (by decide) (name := "index") rfl (zh hts k2_5) (fun _ h9 => h9) rfl dX3_markAsked_7 ?_
  obtain rfl := Option.some.inj hF
  exact hend _ _ _ _ hP hD hS dX3_markAsked_10
def fX5_markAsked (N : Nat) (kc : Nat → zKC) (tr : zOS) (L : zLS) (a : Nat) : Option (Int32 × zOS) :=
  (fX9_leave N tr (23 : Int32)).bind fun u_1 =>
  (fX3_markAsked N kc u_1 a).bind fun u_2 =>
  (fX3_sizeAsked N kc u_2.2 L a).bind fun u_4 =>
  some (u_2.1 - u_4.1, u_4.2)
set_option maxHeartbeats 4000000 in
set_option maxRecDepth 100000 in
theorem qX5_markAsked (l : Launch) (D : va_G) (E : zE) (KL : List Nat) (kc : Nat → zKC) (on : zNS) (rw rd ft tr : zOS) (la : Nat → zLS) (mo : zMS) (j : Nat) (hj : j < 5) (L : zLS) (a : Nat) (ha : a ∈ KL) (hk : (kc a).1 = 4) (N sz : Nat)  (out : Int32 × zOS) (hF : fX5_markAsked N kc tr L a = some out) : zCi l yX5_markAsked zwX5_markAsked ({ frames := 3, cells := 0, slots := 0, locals := 64 }) [.ref a, .ref (E.1 (13 + 11 * j)), .ref (E.1 11)] D E sz (zW E KL kc on rw rd ft tr (va_up la j L) mo) (zW E KL kc on rw rd ft out.2 (va_up la j L) mo) out.1 0 0 := by
  refine zent_i (cc := cX5_markAsked) (nL := 3) (by decide) rfl (Nat.le_of_ble_eq_true rfl) ?_
  intro p e s m args below meth c Q A hx hb hml hown hts hA hK hP hD hS hE ls hl hend
  have hown : s.vm.findClass RX5 = some m.cls := hown
  have hl : lv_has ls 3 [(0, .ref a), (1, .ref (E.1 (13 + 11 * j))), (2, .ref (E.1 11))] := hl
  rw [fX5_markAsked] at hF
  refine lv_aload_n hx hb dX5_markAsked_0 rfl (lv_at hl 2 rfl) ?_
  refine lv_bipush (v := 23) hx hb dX5_markAsked_1 (by decide) ?_
  obtain ⟨u_1, hu_1, hF⟩ := zbd hF
  refine zcall_v (va_runV (As := [.int (23 : Int32)]) (rest := []) ⟨hx, hb, hml, hown, hts⟩ (qX9_leave l D E KL kc on rw rd ft tr (va_up la j L) mo N _ (23 : Int32) _ hu_1) (cwV 1 hts (zgV k4_29 k3_229 k3_230 k0_7 k3_231) rfl rfl rfl (by decide +kernel) ⟨Nat.le_of_ble_eq_true rfl, Nat.le_of_ble_eq_true rfl⟩) (zpv hE hS hA hK hP hD (va_recv hK hP (ci := 8) (q0 := 11) rfl (zg_tr _ _ _ _ _ _ _ _ _ _))) rfl rfl hl.1 rfl (lv_room (Nat.le_of_ble_eq_true rfl)) dX5_markAsked_3 ⟨Nat.zero_le _, Nat.zero_le _⟩) hD hS hA (fun H locs hP hD hS => ?_)
  refine lv_aload_n hx hb dX5_markAsked_6 rfl (lv_at hl 0 rfl) ?_
  refine lv_aload_n hx hb dX5_markAsked_7 rfl (lv_at hl 1 rfl) ?_
  refine lv_aload_n hx hb dX5_markAsked_8 rfl (lv_at hl 2 rfl) ?_
  obtain ⟨u_2, hu_2, hF⟩ := zbd hF
  obtain ⟨C_t_3, cC_t_3, hat_t_3, hrc_t_3⟩ := zrK E KL kc on rw rd ft u_1 (va_up la j L) mo hK hP ha (by omega)
  refine zcall_i (va_runSU (As := [.ref (E.1 (13 + 11 * j)), .ref (E.1 11)]) (rest := []) hat_t_3 ⟨hx, hb, hml, hown, hts⟩ (qX3_markAsked l D E KL kc on rw rd ft u_1 la mo j hj L a ha (by omega) N _ _ hu_2) (va_cwSU 2 hts (zgSU k4_30 k6_36 k2_23 k4_5 k0_15 k4_6) rfl rfl rfl (by decide +kernel) ⟨Nat.le_of_ble_eq_true rfl, Nat.le_of_ble_eq_true rfl⟩) (zpv hE hS hA hK hP hD hrc_t_3) rfl rfl hl.1 rfl (lv_room (Nat.le_of_ble_eq_true rfl)) dX5_markAsked_9 ⟨Nat.zero_le _, Nat.zero_le _⟩) hD hS hA (fun H locs hP hD hS => ?_)
  refine lv_aload_n hx hb dX5_markAsked_12 rfl (lv_at hl 0 rfl) ?_
  refine lv_aload_n hx hb dX5_markAsked_13 rfl (lv_at hl 1 rfl) ?_
  refine lv_aload_n hx hb dX5_markAsked_14 rfl (lv_at hl 2 rfl) ?_
  obtain ⟨u_4, hu_4, hF⟩ := zbd hF
  obtain ⟨q_5, hq_5⟩ := zg_K E KL kc on rw rd ft u_2.2 (va_up la j L) mo ha hk
  refine zcall_i (va_runU (As := [.ref (E.1 (13 + 11 * j)), .ref (E.1 11)]) (rest := [.int u_2.1]) ⟨hx, hb, hml, hown, hts⟩ (qX3_sizeAsked l D E KL kc on rw rd ft u_2.2 la mo j hj L a ha (by omega) N _ _ hu_4) (va_cwU 2 hts (zgU k4_31 k4_32 k4_34 k3_223 k0_15 k4_24) rfl rfl rfl rfl (by decide +kernel) ⟨Nat.le_of_ble_eq_true rfl, Nat.le_of_ble_eq_true rfl⟩) (zpv hE hS hA hK hP hD (va_recv hK hP (ci := 4) (q0 := q_5) rfl hq_5)) rfl rfl hl.1 rfl (lv_room (Nat.le_of_ble_eq_true rfl)) dX5_markAsked_15 ⟨Nat.zero_le _, Nat.zero_le _⟩) hD hS hA (fun H locs hP hD hS => ?_)
  refine lv_isub hx hb dX5_markAsked_18 ?_
  obtain rfl := Option.some.inj hF
  exact hend _ _ _ _ hP hD hS dX5_markAsked_19
def fX8_sizeAsked (N : Nat) (kc : Nat → zKC) (tr : zOS) (L : zLS) (a : Nat) : Option (Int32 × zOS) :=
  (fX9_leave N tr (14 : Int32)).bind fun u_1 =>
  (fX3_sizeAsked N kc u_1 L a).bind fun u_2 =>
  some (u_2.1 - (100 : Int32), u_2.2)
set_option maxHeartbeats 4000000 in
set_option maxRecDepth 100000 in
theorem qX8_sizeAsked (l : Launch) (D : va_G) (E : zE) (KL : List Nat) (kc : Nat → zKC) (on : zNS) (rw rd ft tr : zOS) (la : Nat → zLS) (mo : zMS) (j : Nat) (hj : j < 5) (L : zLS) (a : Nat) (ha : a ∈ KL) (hk : (kc a).1 = 7) (N sz : Nat)  (out : Int32 × zOS) (hF : fX8_sizeAsked N kc tr L a = some out) : zCi l yX8_sizeAsked zwX8_sizeAsked ({ frames := 3, cells := 0, slots := 0, locals := 64 }) [.ref a, .ref (E.1 (13 + 11 * j)), .ref (E.1 11)] D E sz (zW E KL kc on rw rd ft tr (va_up la j L) mo) (zW E KL kc on rw rd ft out.2 (va_up la j L) mo) out.1 0 0 := by
  refine zent_i (cc := cX8_sizeAsked) (nL := 3) (by decide) rfl (Nat.le_of_ble_eq_true rfl) ?_
  intro p e s m args below meth c Q A hx hb hml hown hts hA hK hP hD hS hE ls hl hend
  have hown : s.vm.findClass RX8 = some m.cls := hown
  have hl : lv_has ls 3 [(0, .ref a), (1, .ref (E.1 (13 + 11 * j))), (2, .ref (E.1 11))] := hl
  rw [fX8_sizeAsked] at hF
  refine lv_aload_n hx hb dX8_sizeAsked_0 rfl (lv_at hl 2 rfl) ?_
  refine lv_bipush (v := 14) hx hb dX8_sizeAsked_1 (by decide) ?_
  obtain ⟨u_1, hu_1, hF⟩ := zbd hF
  refine zcall_v (va_runV (As := [.int (14 : Int32)]) (rest := []) ⟨hx, hb, hml, hown, hts⟩ (qX9_leave l D E KL kc on rw rd ft tr (va_up la j L) mo N _ (14 : Int32) _ hu_1) (cwV 1 hts (zgV k4_17 k3_229 k3_230 k0_7 k3_231) rfl rfl rfl (by decide +kernel) ⟨Nat.le_of_ble_eq_true rfl, Nat.le_of_ble_eq_true rfl⟩) (zpv hE hS hA hK hP hD (va_recv hK hP (ci := 8) (q0 := 11) rfl (zg_tr _ _ _ _ _ _ _ _ _ _))) rfl rfl hl.1 rfl (lv_room (Nat.le_of_ble_eq_true rfl)) dX8_sizeAsked_3 ⟨Nat.zero_le _, Nat.zero_le _⟩) hD hS hA (fun H locs hP hD hS => ?_)
  refine lv_aload_n hx hb dX8_sizeAsked_6 rfl (lv_at hl 0 rfl) ?_
  refine lv_aload_n hx hb dX8_sizeAsked_7 rfl (lv_at hl 1 rfl) ?_
  refine lv_aload_n hx hb dX8_sizeAsked_8 rfl (lv_at hl 2 rfl) ?_
  obtain ⟨u_2, hu_2, hF⟩ := zbd hF
  obtain ⟨C_t_3, cC_t_3, hat_t_3, hrc_t_3⟩ := zrK E KL kc on rw rd ft u_1 (va_up la j L) mo hK hP ha (by omega)
  refine zcall_i (va_runSU (As := [.ref (E.1 (13 + 11 * j)), .ref (E.1 11)]) (rest := []) hat_t_3 ⟨hx, hb, hml, hown, hts⟩ (qX3_sizeAsked l D E KL kc on rw rd ft u_1 la mo j hj L a ha (by omega) N _ _ hu_2) (va_cwSU 2 hts (zgSU k4_18 k3_224 k2_63 k3_223 k0_15 k4_24) rfl rfl rfl (by decide +kernel) ⟨Nat.le_of_ble_eq_true rfl, Nat.le_of_ble_eq_true rfl⟩) (zpv hE hS hA hK hP hD hrc_t_3) rfl rfl hl.1 rfl (lv_room (Nat.le_of_ble_eq_true rfl)) dX8_sizeAsked_9 ⟨Nat.zero_le _, Nat.zero_le _⟩) hD hS hA (fun H locs hP hD hS => ?_)
  refine lv_bipush (v := 100) hx hb dX8_sizeAsked_12 (by decide) ?_
  refine lv_isub hx hb dX8_sizeAsked_14 ?_
  obtain rfl := Option.some.inj hF
  exact hend _ _ _ _ hP hD hS dX8_sizeAsked_15
def fX8_markAsked (N : Nat) (kc : Nat → zKC) (tr : zOS) (L : zLS) (a : Nat) : Option (Int32 × zOS) :=
  (fX9_leave N tr (24 : Int32)).bind fun u_1 =>
  (fX3_markAsked N kc u_1 a).bind fun u_2 =>
  (fX8_sizeAsked N kc u_2.2 L a).bind fun u_4 =>
  some (u_2.1 + u_4.1, u_4.2)
set_option maxHeartbeats 4000000 in
set_option maxRecDepth 100000 in
theorem qX8_markAsked (l : Launch) (D : va_G) (E : zE) (KL : List Nat) (kc : Nat → zKC) (on : zNS) (rw rd ft tr : zOS) (la : Nat → zLS) (mo : zMS) (j : Nat) (hj : j < 5) (L : zLS) (a : Nat) (ha : a ∈ KL) (hk : (kc a).1 = 7) (N sz : Nat)  (out : Int32 × zOS) (hF : fX8_markAsked N kc tr L a = some out) : zCi l yX8_markAsked zwX8_markAsked ({ frames := 4, cells := 0, slots := 0, locals := 86 }) [.ref a, .ref (E.1 (13 + 11 * j)), .ref (E.1 11)] D E sz (zW E KL kc on rw rd ft tr (va_up la j L) mo) (zW E KL kc on rw rd ft out.2 (va_up la j L) mo) out.1 0 0 := by
  refine zent_i (cc := cX8_markAsked) (nL := 3) (by decide) rfl (Nat.le_of_ble_eq_true rfl) ?_
  intro p e s m args below meth c Q A hx hb hml hown hts hA hK hP hD hS hE ls hl hend
  have hown : s.vm.findClass RX8 = some m.cls := hown
  have hl : lv_has ls 3 [(0, .ref a), (1, .ref (E.1 (13 + 11 * j))), (2, .ref (E.1 11))] := hl
  rw [fX8_markAsked] at hF
  refine lv_aload_n hx hb dX8_markAsked_0 rfl (lv_at hl 2 rfl) ?_
  refine lv_bipush (v := 24) hx hb dX8_markAsked_1 (by decide) ?_
  obtain ⟨u_1, hu_1, hF⟩ := zbd hF
  refine zcall_v (va_runV (As := [.int (24 : Int32)]) (rest := []) ⟨hx, hb, hml, hown, hts⟩ (qX9_leave l D E KL kc on rw rd ft tr (va_up la j L) mo N _ (24 : Int32) _ hu_1) (cwV 1 hts (zgV k4_17 k3_229 k3_230 k0_7 k3_231) rfl rfl rfl (by decide +kernel) ⟨Nat.le_of_ble_eq_true rfl, Nat.le_of_ble_eq_true rfl⟩) (zpv hE hS hA hK hP hD (va_recv hK hP (ci := 8) (q0 := 11) rfl (zg_tr _ _ _ _ _ _ _ _ _ _))) rfl rfl hl.1 rfl (lv_room (Nat.le_of_ble_eq_true rfl)) dX8_markAsked_3 ⟨Nat.zero_le _, Nat.zero_le _⟩) hD hS hA (fun H locs hP hD hS => ?_)
  refine lv_aload_n hx hb dX8_markAsked_6 rfl (lv_at hl 0 rfl) ?_
  refine lv_aload_n hx hb dX8_markAsked_7 rfl (lv_at hl 1 rfl) ?_
  refine lv_aload_n hx hb dX8_markAsked_8 rfl (lv_at hl 2 rfl) ?_
  obtain ⟨u_2, hu_2, hF⟩ := zbd hF
  obtain ⟨C_t_3, cC_t_3, hat_t_3, hrc_t_3⟩ := zrK E KL kc on rw rd ft u_1 (va_up la j L) mo hK hP ha (by omega)
  refine zcall_i (va_runSU (As := [.ref (E.1 (13 + 11 * j)), .ref (E.1 11)]) (rest := []) hat_t_3 ⟨hx, hb, hml, hown, hts⟩ (qX3_markAsked l D E KL kc on rw rd ft u_1 la mo j hj L a ha (by omega) N _ _ hu_2) (va_cwSU 2 hts (zgSU k4_37 k6_36 k2_63 k4_5 k0_15 k4_6) rfl rfl rfl (by decide +kernel) ⟨Nat.le_of_ble_eq_true rfl, Nat.le_of_ble_eq_true rfl⟩) (zpv hE hS hA hK hP hD hrc_t_3) rfl rfl hl.1 rfl (lv_room (Nat.le_of_ble_eq_true rfl)) dX8_markAsked_9 ⟨Nat.zero_le _, Nat.zero_le _⟩) hD hS hA (fun H locs hP hD hS => ?_)
  refine lv_aload_n hx hb dX8_markAsked_12 rfl (lv_at hl 0 rfl) ?_
  refine lv_aload_n hx hb dX8_markAsked_13 rfl (lv_at hl 1 rfl) ?_
  refine lv_aload_n hx hb dX8_markAsked_14 rfl (lv_at hl 2 rfl) ?_
  obtain ⟨u_4, hu_4, hF⟩ := zbd hF
  obtain ⟨q_5, hq_5⟩ := zg_K E KL kc on rw rd ft u_2.2 (va_up la j L) mo ha hk
  refine zcall_i (va_runV (As := [.ref (E.1 (13 + 11 * j)), .ref (E.1 11)]) (rest := [.int u_2.1]) ⟨hx, hb, hml, hown, hts⟩ (qX8_sizeAsked l D E KL kc on rw rd ft u_2.2 la mo j hj L a ha (by omega) N _ _ hu_4) (cwV 2 hts (zgV k4_38 k4_15 k6_42 k0_20 k4_16) rfl rfl rfl (by decide +kernel) ⟨Nat.le_of_ble_eq_true rfl, Nat.le_of_ble_eq_true rfl⟩) (zpv hE hS hA hK hP hD (va_recv hK hP (ci := 7) (q0 := q_5) rfl hq_5)) rfl rfl hl.1 rfl (lv_room (Nat.le_of_ble_eq_true rfl)) dX8_markAsked_15 ⟨Nat.zero_le _, Nat.zero_le _⟩) hD hS hA (fun H locs hP hD hS => ?_)
  refine lv_iadd hx hb dX8_markAsked_18 ?_
  obtain rfl := Option.some.inj hF
  exact hend _ _ _ _ hP hD hS dX8_markAsked_19
def fX10_sells (N : Nat) (KL : List Nat) (kc : Nat → zKC) (L : zLS) (a : Nat) (x2 : Int32) : Option Int32 :=
  (fX0_sells N kc L a x2).bind fun u_1 =>
  if u_1 = 0 then
    (fX10_isAnotherAboutTo N KL kc L a x2).bind fun u_4 =>
    if u_4 = 0 then
      some (0 : Int32)
    else
      some (1 : Int32)
  else
    some (1 : Int32)
set_option maxHeartbeats 4000000 in
set_option maxRecDepth 100000 in
theorem qX10_sells (l : Launch) (D : va_G) (E : zE) (KL : List Nat) (kc : Nat → zKC) (on : zNS) (rw rd ft tr : zOS) (la : Nat → zLS) (mo : zMS) (j : Nat) (hj : j < 5) (L : zLS) (a : Nat) (ha : a ∈ KL) (hk : (kc a).1 = 9) (N sz : Nat) (x2 : Int32) (out : Int32) (hF : fX10_sells N KL kc L a x2 = some out) : zCi l yX10_sells zwX10_sells ({ frames := 3, cells := 0, slots := 0, locals := 69 }) [.ref a, .ref (E.1 (13 + 11 * j)), .int x2] D E sz (zW E KL kc on rw rd ft tr (va_up la j L) mo) (zW E KL kc on rw rd ft tr (va_up la j L) mo) out 0 0 := by
  refine zent_z (cc := cX10_sells) (nL := 3) (by decide) rfl (Nat.le_of_ble_eq_true rfl) ?_
  intro p e s m args below meth c Q A hx hb hml hown hts hA hK hP hD hS hE ls hl hend
  have hown : s.vm.findClass RX10 = some m.cls := hown
  have hl : lv_has ls 3 [(0, .ref a), (1, .ref (E.1 (13 + 11 * j))), (2, .int x2)] := hl
  rw [fX10_sells] at hF
  refine lv_aload_n hx hb dX10_sells_0 rfl (lv_at hl 0 rfl) ?_
  refine lv_aload_n hx hb dX10_sells_1 rfl (lv_at hl 1 rfl) ?_
  refine lv_iload_n hx hb dX10_sells_2 rfl (lv_at hl 2 rfl) ?_
  obtain ⟨u_1, hu_1, hF⟩ := zbd hF
  obtain ⟨C_t_2, cC_t_2, hat_t_2, hrc_t_2⟩ := zrK E KL kc on rw rd ft tr (va_up la j L) mo hK hP ha (by omega)
  refine zcall_i (va_runSU (As := [.ref (E.1 (13 + 11 * j)), .int x2]) (rest := []) hat_t_2 ⟨hx, hb, hml, hown, hts⟩ (qX0_sells l D E KL kc on rw rd ft tr la mo j hj L a ha (by omega) N _ x2 _ hu_1) (va_cwSU 2 hts (zgSU k2_157 k6_35 k2_43 k2_141 k0_17 k2_142) rfl rfl rfl (by decide +kernel) ⟨Nat.le_of_ble_eq_true rfl, Nat.le_of_ble_eq_true rfl⟩) (zpv hE hS hA hK hP hD hrc_t_2) rfl rfl hl.1 rfl (lv_room (Nat.le_of_ble_eq_true rfl)) dX10_sells_3 ⟨Nat.zero_le _, Nat.zero_le _⟩) hD hS hA (fun H locs hP hD hS => ?_)
  refine lv_if_ne (tgt := 18) hx hb dX10_sells_6 (by decide) (fun c_3 => ?_) (fun c_3 => ?_)
  · have hF := zif c_3 hF
    refine lv_iconst (v := 1) hx hb dX10_sells_18 (by decide) ?_
    refine lv_goto (tgt := 23) hx hb dX10_sells_19 (by decide) ?_
    obtain rfl := Option.some.inj hF
    exact hend _ _ _ _ znar1 hP hD hS dX10_sells_23
  · have hF := zit c_3 hF
    refine lv_aload_n hx hb dX10_sells_9 rfl (lv_at hl 0 rfl) ?_
    refine lv_aload_n hx hb dX10_sells_10 rfl (lv_at hl 1 rfl) ?_
    refine lv_iload_n hx hb dX10_sells_11 rfl (lv_at hl 2 rfl) ?_
    obtain ⟨u_4, hu_4, hF⟩ := zbd hF
    obtain ⟨q_5, hq_5⟩ := zg_K E KL kc on rw rd ft tr (va_up la j L) mo ha hk
    refine zcall_i (va_runV (As := [.ref (E.1 (13 + 11 * j)), .int x2]) (rest := []) ⟨hx, hb, hml, hown, hts⟩ (qX10_isAnotherAboutTo l D E KL kc on rw rd ft tr la mo j hj L a ha (by omega) N _ x2 _ hu_4) (cwV 2 hts (zgV k2_158 k2_160 kp1_3 k0_18 k2_161) rfl rfl rfl (by decide +kernel) ⟨Nat.le_of_ble_eq_true rfl, Nat.le_of_ble_eq_true rfl⟩) (zpv hE hS hA hK hP hD (va_recv hK hP (ci := 9) (q0 := q_5) rfl hq_5)) rfl rfl hl.1 rfl (lv_room (Nat.le_of_ble_eq_true rfl)) dX10_sells_12 ⟨Nat.zero_le _, Nat.zero_le _⟩) hD hS hA (fun H locs hP hD hS => ?_)
    refine lv_if_eq (tgt := 22) hx hb dX10_sells_15 (by decide) (fun c_6 => ?_) (fun c_6 => ?_)
    · have hF := zit c_6 hF
      refine lv_iconst (v := 0) hx hb dX10_sells_22 (by decide) ?_
      obtain rfl := Option.some.inj hF
      exact hend _ _ _ _ znar0 hP hD hS dX10_sells_23
    · have hF := zif c_6 hF
      refine lv_iconst (v := 1) hx hb dX10_sells_18 (by decide) ?_
      refine lv_goto (tgt := 23) hx hb dX10_sells_19 (by decide) ?_
      obtain rfl := Option.some.inj hF
      exact hend _ _ _ _ znar1 hP hD hS dX10_sells_23
def fX0_isOf (N : Nat) (kc : Nat → zKC) (a : Nat) (x1 : Int32) : Option Int32 :=
  if x1 = (2 : Int32) then
    some (1 : Int32)
  else
    (fX3_isOf N kc a x1).bind fun u_2 =>
    if u_2 = 0 then
      some (0 : Int32)
    else
      some (1 : Int32)
set_option maxHeartbeats 4000000 in
set_option maxRecDepth 100000 in
theorem qX0_isOf (l : Launch) (D : va_G) (E : zE) (KL : List Nat) (kc : Nat → zKC) (on : zNS) (rw rd ft tr : zOS) (la : Nat → zLS) (mo : zMS) (a : Nat) (ha : a ∈ KL) (hk : (kc a).1 = 0 ∨ (kc a).1 = 1 ∨ (kc a).1 = 9) (N sz : Nat) (x1 : Int32) (out : Int32) (hF : fX0_isOf N kc a x1 = some out) : zCi l yX0_isOf zwX0_isOf ({ frames := 2, cells := 0, slots := 0, locals := 41 }) [.ref a, .int x1] D E sz (zW E KL kc on rw rd ft tr la mo) (zW E KL kc on rw rd ft tr la mo) out 0 0 := by
  refine zent_z (cc := cX0_isOf) (nL := 2) (by decide) rfl (Nat.le_of_ble_eq_true rfl) ?_
  intro p e s m args below meth c Q A hx hb hml hown hts hA hK hP hD hS hE ls hl hend
  have hown : s.vm.findClass RX0 = some m.cls := hown
  have hl : lv_has ls 2 [(0, .ref a), (1, .int x1)] := hl
  rw [fX0_isOf] at hF
  refine lv_iload_n hx hb dX0_isOf_0 rfl (lv_at hl 1 rfl) ?_
  refine lv_iconst (v := 2) hx hb dX0_isOf_1 (by decide) ?_
  refine lv_icmp_eq (tgt := 13) hx hb dX0_isOf_2 (by decide) (fun c_1 => ?_) (fun c_1 => ?_)
  · have hF := zit c_1 hF
    refine lv_iconst (v := 1) hx hb dX0_isOf_13 (by decide) ?_
    refine lv_goto (tgt := 18) hx hb dX0_isOf_14 (by decide) ?_
    obtain rfl := Option.some.inj hF
    exact hend _ _ _ _ znar1 hP hD hS dX0_isOf_18
  · have hF := zif c_1 hF
    refine lv_aload_n hx hb dX0_isOf_5 rfl (lv_at hl 0 rfl) ?_
    refine lv_iload_n hx hb dX0_isOf_6 rfl (lv_at hl 1 rfl) ?_
    obtain ⟨u_2, hu_2, hF⟩ := zbd hF
    obtain ⟨C_t_3, cC_t_3, hat_t_3, hrc_t_3⟩ := zrK E KL kc on rw rd ft tr la mo hK hP ha (by omega)
    refine zcall_i (va_runSU (As := [.int x1]) (rest := []) hat_t_3 ⟨hx, hb, hml, hown, hts⟩ (qX3_isOf l D E KL kc on rw rd ft tr la mo a ha (by omega) N _ x1 _ hu_2) (va_cwSU 1 hts (zgSU k3_207 k3_203 k2_33 k3_202 k0_15 k3_212) rfl rfl rfl (by decide +kernel) ⟨Nat.le_of_ble_eq_true rfl, Nat.le_of_ble_eq_true rfl⟩) (zpv hE hS hA hK hP hD hrc_t_3) rfl rfl hl.1 rfl (lv_room (Nat.le_of_ble_eq_true rfl)) dX0_isOf_7 ⟨Nat.zero_le _, Nat.zero_le _⟩) hD hS hA (fun H locs hP hD hS => ?_)
    refine lv_if_eq (tgt := 17) hx hb dX0_isOf_10 (by decide) (fun c_4 => ?_) (fun c_4 => ?_)
    · have hF := zit c_4 hF
      refine lv_iconst (v := 0) hx hb dX0_isOf_17 (by decide) ?_
      obtain rfl := Option.some.inj hF
      exact hend _ _ _ _ znar0 hP hD hS dX0_isOf_18
    · have hF := zif c_4 hF
      refine lv_iconst (v := 1) hx hb dX0_isOf_13 (by decide) ?_
      refine lv_goto (tgt := 18) hx hb dX0_isOf_14 (by decide) ?_
      obtain rfl := Option.some.inj hF
      exact hend _ _ _ _ znar1 hP hD hS dX0_isOf_18
def fX0_markAsked (N : Nat) (kc : Nat → zKC) (tr : zOS) (a : Nat) : Option (Int32 × zOS) :=
  (fX9_leave N tr (21 : Int32)).bind fun u_1 =>
  (fX3_markAsked N kc u_1 a).bind fun u_2 =>
  some (u_2.1 + ((10 : Int32) * ((kc a).2.2.1)), u_2.2)
set_option maxHeartbeats 4000000 in
set_option maxRecDepth 100000 in
theorem qX0_markAsked (l : Launch) (D : va_G) (E : zE) (KL : List Nat) (kc : Nat → zKC) (on : zNS) (rw rd ft tr : zOS) (la : Nat → zLS) (mo : zMS) (j : Nat) (hj : j < 5) (L : zLS) (a : Nat) (ha : a ∈ KL) (hk : (kc a).1 = 0 ∨ (kc a).1 = 1 ∨ (kc a).1 = 9) (N sz : Nat)  (out : Int32 × zOS) (hF : fX0_markAsked N kc tr a = some out) : zCi l yX0_markAsked zwX0_markAsked ({ frames := 2, cells := 0, slots := 0, locals := 43 }) [.ref a, .ref (E.1 (13 + 11 * j)), .ref (E.1 11)] D E sz (zW E KL kc on rw rd ft tr (va_up la j L) mo) (zW E KL kc on rw rd ft out.2 (va_up la j L) mo) out.1 0 0 := by
  refine zent_i (cc := cX0_markAsked) (nL := 3) (by decide) rfl (Nat.le_of_ble_eq_true rfl) ?_
  intro p e s m args below meth c Q A hx hb hml hown hts hA hK hP hD hS hE ls hl hend
  have hown : s.vm.findClass RX0 = some m.cls := hown
  have hl : lv_has ls 3 [(0, .ref a), (1, .ref (E.1 (13 + 11 * j))), (2, .ref (E.1 11))] := hl
  rw [fX0_markAsked] at hF
  refine lv_aload_n hx hb dX0_markAsked_0 rfl (lv_at hl 2 rfl) ?_
  refine lv_bipush (v := 21) hx hb dX0_markAsked_1 (by decide) ?_
  obtain ⟨u_1, hu_1, hF⟩ := zbd hF
  refine zcall_v (va_runV (As := [.int (21 : Int32)]) (rest := []) ⟨hx, hb, hml, hown, hts⟩ (qX9_leave l D E KL kc on rw rd ft tr (va_up la j L) mo N _ (21 : Int32) _ hu_1) (cwV 1 hts (zgV k3_228 k3_229 k3_230 k0_7 k3_231) rfl rfl rfl (by decide +kernel) ⟨Nat.le_of_ble_eq_true rfl, Nat.le_of_ble_eq_true rfl⟩) (zpv hE hS hA hK hP hD (va_recv hK hP (ci := 8) (q0 := 11) rfl (zg_tr _ _ _ _ _ _ _ _ _ _))) rfl rfl hl.1 rfl (lv_room (Nat.le_of_ble_eq_true rfl)) dX0_markAsked_3 ⟨Nat.zero_le _, Nat.zero_le _⟩) hD hS hA (fun H locs hP hD hS => ?_)
  refine lv_aload_n hx hb dX0_markAsked_6 rfl (lv_at hl 0 rfl) ?_
  refine lv_aload_n hx hb dX0_markAsked_7 rfl (lv_at hl 1 rfl) ?_
  refine lv_aload_n hx hb dX0_markAsked_8 rfl (lv_at hl 2 rfl) ?_
  obtain ⟨u_2, hu_2, hF⟩ := zbd hF
  obtain ⟨C_t_3, cC_t_3, hat_t_3, hrc_t_3⟩ := zrK E KL kc on rw rd ft u_1 (va_up la j L) mo hK hP ha (by omega)
  refine zcall_i (va_runSU (As := [.ref (E.1 (13 + 11 * j)), .ref (E.1 11)]) (rest := []) hat_t_3 ⟨hx, hb, hml, hown, hts⟩ (qX3_markAsked l D E KL kc on rw rd ft u_1 la mo j hj L a ha (by omega) N _ _ hu_2) (va_cwSU 2 hts (zgSU k4_4 k6_36 k2_33 k4_5 k0_15 k4_6) rfl rfl rfl (by decide +kernel) ⟨Nat.le_of_ble_eq_true rfl, Nat.le_of_ble_eq_true rfl⟩) (zpv hE hS hA hK hP hD hrc_t_3) rfl rfl hl.1 rfl (lv_room (Nat.le_of_ble_eq_true rfl)) dX0_markAsked_9 ⟨Nat.zero_le _, Nat.zero_le _⟩) hD hS hA (fun H locs hP hD hS => ?_)
  refine lv_bipush (v := 10) hx hb dX0_markAsked_12 (by decide) ?_
  refine lv_aload_n hx hb dX0_markAsked_14 rfl (lv_at hl 0 rfl) ?_
  refine zgetK (v := (kc a).2.2.1) hx hb hts hown hK hP ha (by omega) 1 (by decide) (name := "n") rfl (zh hts k2_11) (u_same (zh hts k2_12)) rfl dX0_markAsked_15 ?_
  refine lv_imul hx hb dX0_markAsked_18 ?_
  refine lv_iadd hx hb dX0_markAsked_19 ?_
  obtain rfl := Option.some.inj hF
  exact hend _ _ _ _ hP hD hS dX0_markAsked_20
def fX1_markAsked (N : Nat) (kc : Nat → zKC) (tr : zOS) (a : Nat) : Option (Int32 × zOS) :=
  (fX9_leave N tr (22 : Int32)).bind fun u_1 =>
  (fX0_markAsked N kc u_1 a).bind fun u_2 =>
  some ((2 : Int32) * u_2.1, u_2.2)
set_option maxHeartbeats 4000000 in
set_option maxRecDepth 100000 in
theorem qX1_markAsked (l : Launch) (D : va_G) (E : zE) (KL : List Nat) (kc : Nat → zKC) (on : zNS) (rw rd ft tr : zOS) (la : Nat → zLS) (mo : zMS) (j : Nat) (hj : j < 5) (L : zLS) (a : Nat) (ha : a ∈ KL) (hk : (kc a).1 = 1) (N sz : Nat)  (out : Int32 × zOS) (hF : fX1_markAsked N kc tr a = some out) : zCi l yX1_markAsked zwX1_markAsked ({ frames := 3, cells := 0, slots := 0, locals := 65 }) [.ref a, .ref (E.1 (13 + 11 * j)), .ref (E.1 11)] D E sz (zW E KL kc on rw rd ft tr (va_up la j L) mo) (zW E KL kc on rw rd ft out.2 (va_up la j L) mo) out.1 0 0 := by
  refine zent_i (cc := cX1_markAsked) (nL := 3) (by decide) rfl (Nat.le_of_ble_eq_true rfl) ?_
  intro p e s m args below meth c Q A hx hb hml hown hts hA hK hP hD hS hE ls hl hend
  have hown : s.vm.findClass RX1 = some m.cls := hown
  have hl : lv_has ls 3 [(0, .ref a), (1, .ref (E.1 (13 + 11 * j))), (2, .ref (E.1 11))] := hl
  rw [fX1_markAsked] at hF
  refine lv_aload_n hx hb dX1_markAsked_0 rfl (lv_at hl 2 rfl) ?_
  refine lv_bipush (v := 22) hx hb dX1_markAsked_1 (by decide) ?_
  obtain ⟨u_1, hu_1, hF⟩ := zbd hF
  refine zcall_v (va_runV (As := [.int (22 : Int32)]) (rest := []) ⟨hx, hb, hml, hown, hts⟩ (qX9_leave l D E KL kc on rw rd ft tr (va_up la j L) mo N _ (22 : Int32) _ hu_1) (cwV 1 hts (zgV k4_0 k3_229 k3_230 k0_7 k3_231) rfl rfl rfl (by decide +kernel) ⟨Nat.le_of_ble_eq_true rfl, Nat.le_of_ble_eq_true rfl⟩) (zpv hE hS hA hK hP hD (va_recv hK hP (ci := 8) (q0 := 11) rfl (zg_tr _ _ _ _ _ _ _ _ _ _))) rfl rfl hl.1 rfl (lv_room (Nat.le_of_ble_eq_true rfl)) dX1_markAsked_3 ⟨Nat.zero_le _, Nat.zero_le _⟩) hD hS hA (fun H locs hP hD hS => ?_)
  refine lv_iconst (v := 2) hx hb dX1_markAsked_6 (by decide) ?_
  refine lv_aload_n hx hb dX1_markAsked_7 rfl (lv_at hl 0 rfl) ?_
  refine lv_aload_n hx hb dX1_markAsked_8 rfl (lv_at hl 1 rfl) ?_
  refine lv_aload_n hx hb dX1_markAsked_9 rfl (lv_at hl 2 rfl) ?_
  obtain ⟨u_2, hu_2, hF⟩ := zbd hF
  obtain ⟨C_t_3, cC_t_3, hat_t_3, hrc_t_3⟩ := zrK E KL kc on rw rd ft u_1 (va_up la j L) mo hK hP ha (by omega)
  refine zcall_i (va_runSU (As := [.ref (E.1 (13 + 11 * j)), .ref (E.1 11)]) (rest := [.int (2 : Int32)]) hat_t_3 ⟨hx, hb, hml, hown, hts⟩ (qX0_markAsked l D E KL kc on rw rd ft u_1 la mo j hj L a ha (by omega) N _ _ hu_2) (va_cwSU 2 hts (zgSU k4_1 k3_236 k2_53 k3_234 k0_17 k4_3) rfl rfl rfl (by decide +kernel) ⟨Nat.le_of_ble_eq_true rfl, Nat.le_of_ble_eq_true rfl⟩) (zpv hE hS hA hK hP hD hrc_t_3) rfl rfl hl.1 rfl (lv_room (Nat.le_of_ble_eq_true rfl)) dX1_markAsked_10 ⟨Nat.zero_le _, Nat.zero_le _⟩) hD hS hA (fun H locs hP hD hS => ?_)
  refine lv_imul hx hb dX1_markAsked_13 ?_
  obtain rfl := Option.some.inj hF
  exact hend _ _ _ _ hP hD hS dX1_markAsked_14
def fX0_sizeAsked (N : Nat) (kc : Nat → zKC) (tr : zOS) (L : zLS) (a : Nat) : Option (Int32 × zOS) :=
  (fX9_leave N tr (11 : Int32)).bind fun u_1 =>
  (fX3_sizeAsked N kc u_1 L a).bind fun u_2 =>
  if (kc a).1 = 0 then
    (fX0_markAsked N kc u_2.2 a).bind fun u_5 =>
    some (u_2.1 + u_5.1, u_5.2)
  else if (kc a).1 = 1 then
    (fX1_markAsked N kc u_2.2 a).bind fun u_8 =>
    some (u_2.1 + u_8.1, u_8.2)
  else if (kc a).1 = 9 then
    (fX0_markAsked N kc u_2.2 a).bind fun u_11 =>
    some (u_2.1 + u_11.1, u_11.2)
  else none
set_option maxHeartbeats 4000000 in
set_option maxRecDepth 100000 in
theorem qX0_sizeAsked (l : Launch) (D : va_G) (E : zE) (KL : List Nat) (kc : Nat → zKC) (on : zNS) (rw rd ft tr : zOS) (la : Nat → zLS) (mo : zMS) (j : Nat) (hj : j < 5) (L : zLS) (a : Nat) (ha : a ∈ KL) (hk : (kc a).1 = 0 ∨ (kc a).1 = 1 ∨ (kc a).1 = 9) (N sz : Nat)  (out : Int32 × zOS) (hF : fX0_sizeAsked N kc tr L a = some out) : zCi l yX0_sizeAsked zwX0_sizeAsked ({ frames := 4, cells := 0, slots := 0, locals := 87 }) [.ref a, .ref (E.1 (13 + 11 * j)), .ref (E.1 11)] D E sz (zW E KL kc on rw rd ft tr (va_up la j L) mo) (zW E KL kc on rw rd ft out.2 (va_up la j L) mo) out.1 0 0 := by
  refine zent_i (cc := cX0_sizeAsked) (nL := 3) (by decide) rfl (Nat.le_of_ble_eq_true rfl) ?_
  intro p e s m args below meth c Q A hx hb hml hown hts hA hK hP hD hS hE ls hl hend
  have hown : s.vm.findClass RX0 = some m.cls := hown
  have hl : lv_has ls 3 [(0, .ref a), (1, .ref (E.1 (13 + 11 * j))), (2, .ref (E.1 11))] := hl
  rw [fX0_sizeAsked] at hF
  refine lv_aload_n hx hb dX0_sizeAsked_0 rfl (lv_at hl 2 rfl) ?_
  refine lv_bipush (v := 11) hx hb dX0_sizeAsked_1 (by decide) ?_
  obtain ⟨u_1, hu_1, hF⟩ := zbd hF
  refine zcall_v (va_runV (As := [.int (11 : Int32)]) (rest := []) ⟨hx, hb, hml, hown, hts⟩ (qX9_leave l D E KL kc on rw rd ft tr (va_up la j L) mo N _ (11 : Int32) _ hu_1) (cwV 1 hts (zgV k3_228 k3_229 k3_230 k0_7 k3_231) rfl rfl rfl (by decide +kernel) ⟨Nat.le_of_ble_eq_true rfl, Nat.le_of_ble_eq_true rfl⟩) (zpv hE hS hA hK hP hD (va_recv hK hP (ci := 8) (q0 := 11) rfl (zg_tr _ _ _ _ _ _ _ _ _ _))) rfl rfl hl.1 rfl (lv_room (Nat.le_of_ble_eq_true rfl)) dX0_sizeAsked_3 ⟨Nat.zero_le _, Nat.zero_le _⟩) hD hS hA (fun H locs hP hD hS => ?_)
  refine lv_aload_n hx hb dX0_sizeAsked_6 rfl (lv_at hl 0 rfl) ?_
  refine lv_aload_n hx hb dX0_sizeAsked_7 rfl (lv_at hl 1 rfl) ?_
  refine lv_aload_n hx hb dX0_sizeAsked_8 rfl (lv_at hl 2 rfl) ?_
  obtain ⟨u_2, hu_2, hF⟩ := zbd hF
  obtain ⟨C_t_3, cC_t_3, hat_t_3, hrc_t_3⟩ := zrK E KL kc on rw rd ft u_1 (va_up la j L) mo hK hP ha (by omega)
  refine zcall_i (va_runSU (As := [.ref (E.1 (13 + 11 * j)), .ref (E.1 11)]) (rest := []) hat_t_3 ⟨hx, hb, hml, hown, hts⟩ (qX3_sizeAsked l D E KL kc on rw rd ft u_1 la mo j hj L a ha (by omega) N _ _ hu_2) (va_cwSU 2 hts (zgSU k3_232 k3_224 k2_33 k3_223 k0_15 k4_24) rfl rfl rfl (by decide +kernel) ⟨Nat.le_of_ble_eq_true rfl, Nat.le_of_ble_eq_true rfl⟩) (zpv hE hS hA hK hP hD hrc_t_3) rfl rfl hl.1 rfl (lv_room (Nat.le_of_ble_eq_true rfl)) dX0_sizeAsked_9 ⟨Nat.zero_le _, Nat.zero_le _⟩) hD hS hA (fun H locs hP hD hS => ?_)
  refine lv_aload_n hx hb dX0_sizeAsked_12 rfl (lv_at hl 0 rfl) ?_
  refine lv_aload_n hx hb dX0_sizeAsked_13 rfl (lv_at hl 1 rfl) ?_
  refine lv_aload_n hx hb dX0_sizeAsked_14 rfl (lv_at hl 2 rfl) ?_
  by_cases kk_4 : (kc a).1 = 0
  · have hF := zit kk_4 hF
    obtain ⟨u_5, hu_5, hF⟩ := zbd hF
    obtain ⟨q_6, hq_6⟩ := zg_K E KL kc on rw rd ft u_2.2 (va_up la j L) mo ha kk_4
    refine zcall_i (va_runV (As := [.ref (E.1 (13 + 11 * j)), .ref (E.1 11)]) (rest := [.int u_2.1]) ⟨hx, hb, hml, hown, hts⟩ (qX0_markAsked l D E KL kc on rw rd ft u_2.2 la mo j hj L a ha (by omega) N _ _ hu_5) (cwV 2 hts (zgV k3_233 k3_234 k3_235 k0_17 k4_3) rfl rfl rfl (by decide +kernel) ⟨Nat.le_of_ble_eq_true rfl, Nat.le_of_ble_eq_true rfl⟩) (zpv hE hS hA hK hP hD (va_recv hK hP (ci := 0) (q0 := q_6) rfl hq_6)) rfl rfl hl.1 rfl (lv_room (Nat.le_of_ble_eq_true rfl)) dX0_sizeAsked_15 ⟨Nat.zero_le _, Nat.zero_le _⟩) hD hS hA (fun H locs hP hD hS => ?_)
    refine lv_iadd hx hb dX0_sizeAsked_18 ?_
    obtain rfl := Option.some.inj hF
    exact hend _ _ _ _ hP hD hS dX0_sizeAsked_19
  · have hF := zif kk_4 hF
    by_cases kk_7 : (kc a).1 = 1
    · have hF := zit kk_7 hF
      obtain ⟨u_8, hu_8, hF⟩ := zbd hF
      obtain ⟨q_9, hq_9⟩ := zg_K E KL kc on rw rd ft u_2.2 (va_up la j L) mo ha kk_7
      refine zcall_i (va_runU (As := [.ref (E.1 (13 + 11 * j)), .ref (E.1 11)]) (rest := [.int u_2.1]) ⟨hx, hb, hml, hown, hts⟩ (qX1_markAsked l D E KL kc on rw rd ft u_2.2 la mo j hj L a ha (by omega) N _ _ hu_8) (va_cwO 2 hts (zgO k3_233 k3_236 k3_234 k3_237 k3_238 k0_19 k3_239) rfl rfl rfl (b0 := cX0_markAsked) (m0 := 3) (r0 := some .int) (List.mem_cons_of_mem _ k4_3) (by decide +kernel) ⟨Nat.le_of_ble_eq_true rfl, Nat.le_of_ble_eq_true rfl⟩) (zpv hE hS hA hK hP hD (va_recv hK hP (ci := 1) (q0 := q_9) rfl hq_9)) rfl rfl hl.1 rfl (lv_room (Nat.le_of_ble_eq_true rfl)) dX0_sizeAsked_15 ⟨Nat.zero_le _, Nat.zero_le _⟩) hD hS hA (fun H locs hP hD hS => ?_)
      refine lv_iadd hx hb dX0_sizeAsked_18 ?_
      obtain rfl := Option.some.inj hF
      exact hend _ _ _ _ hP hD hS dX0_sizeAsked_19
    · have hF := zif kk_7 hF
      by_cases kk_10 : (kc a).1 = 9
      · have hF := zit kk_10 hF
        obtain ⟨u_11, hu_11, hF⟩ := zbd hF
        obtain ⟨q_12, hq_12⟩ := zg_K E KL kc on rw rd ft u_2.2 (va_up la j L) mo ha kk_10
        refine zcall_i (va_runU (As := [.ref (E.1 (13 + 11 * j)), .ref (E.1 11)]) (rest := [.int u_2.1]) ⟨hx, hb, hml, hown, hts⟩ (qX0_markAsked l D E KL kc on rw rd ft u_2.2 la mo j hj L a ha (by omega) N _ _ hu_11) (va_cwU 2 hts (zgU k3_233 k3_236 k4_2 k3_234 k0_17 k4_3) rfl rfl rfl rfl (by decide +kernel) ⟨Nat.le_of_ble_eq_true rfl, Nat.le_of_ble_eq_true rfl⟩) (zpv hE hS hA hK hP hD (va_recv hK hP (ci := 9) (q0 := q_12) rfl hq_12)) rfl rfl hl.1 rfl (lv_room (Nat.le_of_ble_eq_true rfl)) dX0_sizeAsked_15 ⟨Nat.zero_le _, Nat.zero_le _⟩) hD hS hA (fun H locs hP hD hS => ?_)
        refine lv_iadd hx hb dX0_sizeAsked_18 ?_
        obtain rfl := Option.some.inj hF
        exact hend _ _ _ _ hP hD hS dX0_sizeAsked_19
      · have hF := zif kk_10 hF
        exact znone hF
def fX1_sizeAsked (N : Nat) (kc : Nat → zKC) (tr : zOS) (L : zLS) (a : Nat) : Option (Int32 × zOS) :=
  (fX9_leave N tr (13 : Int32)).bind fun u_1 =>
  (fX0_sizeAsked N kc u_1 L a).bind fun u_2 =>
  (fX4_piecesOf N L ((kc a).2.1)).bind fun u_5 =>
  some (u_2.1 + u_5, u_2.2)
set_option maxHeartbeats 4000000 in
set_option maxRecDepth 100000 in
theorem qX1_sizeAsked (l : Launch) (D : va_G) (E : zE) (KL : List Nat) (kc : Nat → zKC) (on : zNS) (rw rd ft tr : zOS) (la : Nat → zLS) (mo : zMS) (j : Nat) (hj : j < 5) (L : zLS) (a : Nat) (ha : a ∈ KL) (hk : (kc a).1 = 1) (N sz : Nat)  (out : Int32 × zOS) (hF : fX1_sizeAsked N kc tr L a = some out) : zCi l yX1_sizeAsked zwX1_sizeAsked ({ frames := 5, cells := 0, slots := 0, locals := 109 }) [.ref a, .ref (E.1 (13 + 11 * j)), .ref (E.1 11)] D E sz (zW E KL kc on rw rd ft tr (va_up la j L) mo) (zW E KL kc on rw rd ft out.2 (va_up la j L) mo) out.1 0 0 := by
  refine zent_i (cc := cX1_sizeAsked) (nL := 3) (by decide) rfl (Nat.le_of_ble_eq_true rfl) ?_
  intro p e s m args below meth c Q A hx hb hml hown hts hA hK hP hD hS hE ls hl hend
  have hown : s.vm.findClass RX1 = some m.cls := hown
  have hl : lv_has ls 3 [(0, .ref a), (1, .ref (E.1 (13 + 11 * j))), (2, .ref (E.1 11))] := hl
  rw [fX1_sizeAsked] at hF
  refine lv_aload_n hx hb dX1_sizeAsked_0 rfl (lv_at hl 2 rfl) ?_
  refine lv_bipush (v := 13) hx hb dX1_sizeAsked_1 (by decide) ?_
  obtain ⟨u_1, hu_1, hF⟩ := zbd hF
  refine zcall_v (va_runV (As := [.int (13 : Int32)]) (rest := []) ⟨hx, hb, hml, hown, hts⟩ (qX9_leave l D E KL kc on rw rd ft tr (va_up la j L) mo N _ (13 : Int32) _ hu_1) (cwV 1 hts (zgV k4_0 k3_229 k3_230 k0_7 k3_231) rfl rfl rfl (by decide +kernel) ⟨Nat.le_of_ble_eq_true rfl, Nat.le_of_ble_eq_true rfl⟩) (zpv hE hS hA hK hP hD (va_recv hK hP (ci := 8) (q0 := 11) rfl (zg_tr _ _ _ _ _ _ _ _ _ _))) rfl rfl hl.1 rfl (lv_room (Nat.le_of_ble_eq_true rfl)) dX1_sizeAsked_3 ⟨Nat.zero_le _, Nat.zero_le _⟩) hD hS hA (fun H locs hP hD hS => ?_)
  refine lv_aload_n hx hb dX1_sizeAsked_6 rfl (lv_at hl 0 rfl) ?_
  refine lv_aload_n hx hb dX1_sizeAsked_7 rfl (lv_at hl 1 rfl) ?_
  refine lv_aload_n hx hb dX1_sizeAsked_8 rfl (lv_at hl 2 rfl) ?_
  obtain ⟨u_2, hu_2, hF⟩ := zbd hF
  obtain ⟨C_t_3, cC_t_3, hat_t_3, hrc_t_3⟩ := zrK E KL kc on rw rd ft u_1 (va_up la j L) mo hK hP ha (by omega)
  refine zcall_i (va_runSU (As := [.ref (E.1 (13 + 11 * j)), .ref (E.1 11)]) (rest := []) hat_t_3 ⟨hx, hb, hml, hown, hts⟩ (qX0_sizeAsked l D E KL kc on rw rd ft u_1 la mo j hj L a ha (by omega) N _ _ hu_2) (va_cwSU 2 hts (zgSU k4_11 k6_37 k2_53 k3_226 k0_17 k3_227) rfl rfl rfl (by decide +kernel) ⟨Nat.le_of_ble_eq_true rfl, Nat.le_of_ble_eq_true rfl⟩) (zpv hE hS hA hK hP hD hrc_t_3) rfl rfl hl.1 rfl (lv_room (Nat.le_of_ble_eq_true rfl)) dX1_sizeAsked_9 ⟨Nat.zero_le _, Nat.zero_le _⟩) hD hS hA (fun H locs hP hD hS => ?_)
  refine lv_aload_n hx hb dX1_sizeAsked_12 rfl (lv_at hl 1 rfl) ?_
  refine lv_aload_n hx hb dX1_sizeAsked_13 rfl (lv_at hl 0 rfl) ?_
  refine zgetK (v := (kc a).2.1) hx hb hts hown hK hP ha (by omega) 0 (by decide) (name := "index") rfl (zh hts k2_6) (u_same (zh hts k2_7)) rfl dX1_sizeAsked_14 ?_
  have hrv_4 := (va_recv hK hP (ci := 3) (q0 := 13 + 11 * j) rfl (zg_L _ _ _ _ _ _ _ _ _ _ hj _))
  obtain ⟨u_5, hu_5, hF⟩ := zbd hF
  refine zcall_i (va_runV (As := [.int ((kc a).2.1)]) (rest := [.int u_2.1]) ⟨hx, hb, hml, hown, hts⟩ (qX4_piecesOf l D E KL kc on rw rd ft u_2.2 la mo j hj L N _ ((kc a).2.1) _ hu_5) (cwV 1 hts (zgV k4_12 k2_228 k2_229 k0_6 k2_230) rfl rfl rfl (by decide +kernel) ⟨Nat.le_of_ble_eq_true rfl, Nat.le_of_ble_eq_true rfl⟩) (zpv hE hS hA hK hP hD hrv_4) rfl rfl hl.1 rfl (lv_room (Nat.le_of_ble_eq_true rfl)) dX1_sizeAsked_17 ⟨Nat.zero_le _, Nat.zero_le _⟩) hD hS hA (fun H locs hP hD hS => ?_)
  refine lv_iadd hx hb dX1_sizeAsked_20 ?_
  obtain rfl := Option.some.inj hF
  exact hend _ _ _ _ hP hD hS dX1_sizeAsked_21
def fX10_sizeAsked (N : Nat) (kc : Nat → zKC) (tr : zOS) (L : zLS) (a : Nat) : Option (Int32 × zOS) :=
  (fX9_leave N tr (12 : Int32)).bind fun u_1 =>
  (fX0_sizeAsked N kc u_1 L a).bind fun u_2 =>
  some ((0 : Int32) - u_2.1, u_2.2)
set_option maxHeartbeats 4000000 in
set_option maxRecDepth 100000 in
theorem qX10_sizeAsked (l : Launch) (D : va_G) (E : zE) (KL : List Nat) (kc : Nat → zKC) (on : zNS) (rw rd ft tr : zOS) (la : Nat → zLS) (mo : zMS) (j : Nat) (hj : j < 5) (L : zLS) (a : Nat) (ha : a ∈ KL) (hk : (kc a).1 = 9) (N sz : Nat)  (out : Int32 × zOS) (hF : fX10_sizeAsked N kc tr L a = some out) : zCi l yX10_sizeAsked zwX10_sizeAsked ({ frames := 5, cells := 0, slots := 0, locals := 109 }) [.ref a, .ref (E.1 (13 + 11 * j)), .ref (E.1 11)] D E sz (zW E KL kc on rw rd ft tr (va_up la j L) mo) (zW E KL kc on rw rd ft out.2 (va_up la j L) mo) out.1 0 0 := by
  refine zent_i (cc := cX10_sizeAsked) (nL := 3) (by decide) rfl (Nat.le_of_ble_eq_true rfl) ?_
  intro p e s m args below meth c Q A hx hb hml hown hts hA hK hP hD hS hE ls hl hend
  have hown : s.vm.findClass RX10 = some m.cls := hown
  have hl : lv_has ls 3 [(0, .ref a), (1, .ref (E.1 (13 + 11 * j))), (2, .ref (E.1 11))] := hl
  rw [fX10_sizeAsked] at hF
  refine lv_aload_n hx hb dX10_sizeAsked_0 rfl (lv_at hl 2 rfl) ?_
  refine lv_bipush (v := 12) hx hb dX10_sizeAsked_1 (by decide) ?_
  obtain ⟨u_1, hu_1, hF⟩ := zbd hF
  refine zcall_v (va_runV (As := [.int (12 : Int32)]) (rest := []) ⟨hx, hb, hml, hown, hts⟩ (qX9_leave l D E KL kc on rw rd ft tr (va_up la j L) mo N _ (12 : Int32) _ hu_1) (cwV 1 hts (zgV k4_22 k3_229 k3_230 k0_7 k3_231) rfl rfl rfl (by decide +kernel) ⟨Nat.le_of_ble_eq_true rfl, Nat.le_of_ble_eq_true rfl⟩) (zpv hE hS hA hK hP hD (va_recv hK hP (ci := 8) (q0 := 11) rfl (zg_tr _ _ _ _ _ _ _ _ _ _))) rfl rfl hl.1 rfl (lv_room (Nat.le_of_ble_eq_true rfl)) dX10_sizeAsked_3 ⟨Nat.zero_le _, Nat.zero_le _⟩) hD hS hA (fun H locs hP hD hS => ?_)
  refine lv_iconst (v := 0) hx hb dX10_sizeAsked_6 (by decide) ?_
  refine lv_aload_n hx hb dX10_sizeAsked_7 rfl (lv_at hl 0 rfl) ?_
  refine lv_aload_n hx hb dX10_sizeAsked_8 rfl (lv_at hl 1 rfl) ?_
  refine lv_aload_n hx hb dX10_sizeAsked_9 rfl (lv_at hl 2 rfl) ?_
  obtain ⟨u_2, hu_2, hF⟩ := zbd hF
  obtain ⟨C_t_3, cC_t_3, hat_t_3, hrc_t_3⟩ := zrK E KL kc on rw rd ft u_1 (va_up la j L) mo hK hP ha (by omega)
  refine zcall_i (va_runSU (As := [.ref (E.1 (13 + 11 * j)), .ref (E.1 11)]) (rest := [.int (0 : Int32)]) hat_t_3 ⟨hx, hb, hml, hown, hts⟩ (qX0_sizeAsked l D E KL kc on rw rd ft u_1 la mo j hj L a ha (by omega) N _ _ hu_2) (va_cwSU 2 hts (zgSU k4_23 k6_37 k2_43 k3_226 k0_17 k3_227) rfl rfl rfl (by decide +kernel) ⟨Nat.le_of_ble_eq_true rfl, Nat.le_of_ble_eq_true rfl⟩) (zpv hE hS hA hK hP hD hrc_t_3) rfl rfl hl.1 rfl (lv_room (Nat.le_of_ble_eq_true rfl)) dX10_sizeAsked_10 ⟨Nat.zero_le _, Nat.zero_le _⟩) hD hS hA (fun H locs hP hD hS => ?_)
  refine lv_isub hx hb dX10_sizeAsked_13 ?_
  obtain rfl := Option.some.inj hF
  exact hend _ _ _ _ hP hD hS dX10_sizeAsked_14
