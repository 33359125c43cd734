theorem zent_b {l : Launch} {y : MethodName} {ws ws' : List Cond} {rm : Room} {av : List Value} {D : va_G} {E : zE} {sz : Nat} {w w' : va_W} {r : Int32} {mc ms : Nat} {cc : ByteArray} {nL : Nat} (hy : plainName y.cls = true) (hw : ws = Cond.code y cc nL (some .byte) :: ws') (hav : (lg_sl av).length ≤ nL)
    (k : ∀ (p : Program) (e : Env) (s : State) (m : MethodId) (args : Array Value) (below : List Frame) (meth : Method) (c : Code) (Q : State → Prop) (A : Nat → Prop), p.tables.exec = Jvm.exec → c.code = cc → c.maxLocals = nL → s.vm.findClass y.cls = some m.cls → (∀ w ∈ ws, w.before args s = true) → (∀ q : Nat, s.heap.size ≤ q → A q) → va_K D vwCl (zty E) s → va_P D vwCl w s.heap → va_D A w → va_S A s.heap s.heap [] → zSt E A s s.heap → ∀ ls : Array Slot, lv_has ls nL (lv_args 0 av) →
      (∀ (H : Heap) (locs : List Loc) (ls : Array Slot) (pc : Nat), narrow .byte (.int r) = .int r → va_P D vwCl w' H → va_D A w' → va_S A s.heap H locs → decode cc pc = .ok (.ireturn, 1) → W p l e rm s m args below meth c H locs mc ms Q (F0 m pc ls [.int r])) → W p l e rm s m args below meth c s.heap [] 0 0 Q (F0 m 0 ls [])) : zCi l y ws rm av D E sz w w' r mc ms := by
  refine Met.ofW (cc := cc) (maxL := nL) (ret := some .byte) hy hw ?_
  intro p e s m args below meth c s₁ B hml hv
  obtain ⟨rfl, hsz, hP, hK, hD0, hE⟩ := hv
  have hx := B.exec
  have hb := B.bytes
  have hr := B.returns
  have hts := atoms_spec (ws := ws) B.pre
  have hown : s.vm.findClass y.cls = some m.cls := findClass_of_methodNamed B.named
  have hlocks := B.notSynchronized
  subst hsz
  have hD := hD0.self (sz := s.heap.size)
  have hl := lv_entry av (n := nL) hav
  rw [lg_entry_eq]
  generalize (lg_sl av ++ List.replicate (nL - (lg_sl av).length) Slot.unset).toArray = ls at hl ⊢
  refine k p e s m av.toArray below meth c _ (va_A w s.heap.size) hx hb hml hown hts (fun q h => Or.inr h) hK hP hD va_S.rf hE ls hl ?_
  intro H locs ls pc hz hP hD hS hd
  exact W.zret (v := r) hx hb hr hz (fun t ht hW => ⟨⟨r, (), rfl, rfl, by rw [ht]; exact hP, va_K.moved hW.alike hK, hD⟩, hS.F ht⟩) hS.2.2 hd
theorem zent_c {l : Launch} {y : MethodName} {ws ws' : List Cond} {rm : Room} {av : List Value} {D : va_G} {E : zE} {sz : Nat} {w w' : va_W} {r : Int32} {mc ms : Nat} {cc : ByteArray} {nL : Nat} (hy : plainName y.cls = true) (hw : ws = Cond.code y cc nL (some .char) :: ws') (hav : (lg_sl av).length ≤ nL)
    (k : ∀ (p : Program) (e : Env) (s : State) (m : MethodId) (args : Array Value) (below : List Frame) (meth : Method) (c : Code) (Q : State → Prop) (A : Nat → Prop), p.tables.exec = Jvm.exec → c.code = cc → c.maxLocals = nL → s.vm.findClass y.cls = some m.cls → (∀ w ∈ ws, w.before args s = true) → (∀ q : Nat, s.heap.size ≤ q → A q) → va_K D vwCl (zty E) s → va_P D vwCl w s.heap → va_D A w → va_S A s.heap s.heap [] → zSt E A s s.heap → ∀ ls : Array Slot, lv_has ls nL (lv_args 0 av) →
      (∀ (H : Heap) (locs : List Loc) (ls : Array Slot) (pc : Nat), narrow .char (.int r) = .int r → va_P D vwCl w' H → va_D A w' → va_S A s.heap H locs → decode cc pc = .ok (.ireturn, 1) → W p l e rm s m args below meth c H locs mc ms Q (F0 m pc ls [.int r])) → W p l e rm s m args below meth c s.heap [] 0 0 Q (F0 m 0 ls [])) : zCi l y ws rm av D E sz w w' r mc ms := by
  refine Met.ofW (cc := cc) (maxL := nL) (ret := some .char) hy hw ?_
  intro p e s m args below meth c s₁ B hml hv
  obtain ⟨rfl, hsz, hP, hK, hD0, hE⟩ := hv
  have hx := B.exec
  have hb := B.bytes
  have hr := B.returns
  have hts := atoms_spec (ws := ws) B.pre
  have hown : s.vm.findClass y.cls = some m.cls := findClass_of_methodNamed B.named
  have hlocks := B.notSynchronized
  subst hsz
  have hD := hD0.self (sz := s.heap.size)
  have hl := lv_entry av (n := nL) hav
  rw [lg_entry_eq]
  generalize (lg_sl av ++ List.replicate (nL - (lg_sl av).length) Slot.unset).toArray = ls at hl ⊢
  refine k p e s m av.toArray below meth c _ (va_A w s.heap.size) hx hb hml hown hts (fun q h => Or.inr h) hK hP hD va_S.rf hE ls hl ?_
  intro H locs ls pc hz hP hD hS hd
  exact W.zret (v := r) hx hb hr hz (fun t ht hW => ⟨⟨r, (), rfl, rfl, by rw [ht]; exact hP, va_K.moved hW.alike hK, hD⟩, hS.F ht⟩) hS.2.2 hd
set_option maxHeartbeats 4000000 in
set_option maxRecDepth 100000 in
theorem qcoder (l : Launch) (D : va_G) (E : zE) (W0 : va_W) (sz : Nat) (w : Nat) (hw : w < 12) : zCi l yJ0_coder_7d493 zwJ0_coder_7d493 ({ frames := 0, cells := 0, slots := 0, locals := 0 } : Room) [.ref (E.2.2.2.2.2.1 w)] D E sz W0 W0 0 0 0 := by
  refine zent_b (cc := cJ0_coder_7d493) (nL := 1) (by decide) rfl (Nat.le_of_ble_eq_true rfl) ?_
  intro p e s m args below meth c Q A hx hb hml hown hts hA hK hP hD hS hE ls hl hend
  have hown : s.vm.findClass RJ0 = some m.cls := hown
  have hl : lv_has ls 1 [(0, .ref (E.2.2.2.2.2.1 w))] := hl
  refine va_gets (own := RJ0) hx hb hE.2.1 hS hown (zh hts k1_142) (fun _ h9 => h9) dJ0_coder_7d493_0 ?_
  refine lv_if_eq (tgt := 13) hx hb dJ0_coder_7d493_3 (by decide) (fun c1 => absurd c1 (by decide)) (fun _ => ?_)
  refine lv_aload_n hx hb dJ0_coder_7d493_6 rfl (lv_at hl 0 rfl) ?_
  refine vk_getf (own := RJ0) hx hb ((hE.1.1 w hw).2.1) hS hown (zh hts k6_52) (fun _ h9 => h9) dJ0_coder_7d493_7 ?_
  refine lv_goto (tgt := 14) hx hb dJ0_coder_7d493_10 (by decide) ?_
  exact hend _ _ _ _ rfl hP hD hS dJ0_coder_7d493_14
set_option maxHeartbeats 4000000 in
set_option maxRecDepth 100000 in
theorem qlat (l : Launch) (D : va_G) (E : zE) (W0 : va_W) (sz : Nat) (w : Nat) (hw : w < 12) : zCi l yJ0_isLatin1_aae02 zwJ0_isLatin1_aae02 ({ frames := 0, cells := 0, slots := 0, locals := 0 } : Room) [.ref (E.2.2.2.2.2.1 w)] D E sz W0 W0 1 0 0 := by
  refine zent_z (cc := cJ0_isLatin1_aae02) (nL := 1) (by decide) rfl (Nat.le_of_ble_eq_true rfl) ?_
  intro p e s m args below meth c Q A hx hb hml hown hts hA hK hP hD hS hE ls hl hend
  have hown : s.vm.findClass RJ0 = some m.cls := hown
  have hl : lv_has ls 1 [(0, .ref (E.2.2.2.2.2.1 w))] := hl
  refine va_gets (own := RJ0) hx hb hE.2.1 hS hown (zh hts k1_142) (fun _ h9 => h9) dJ0_isLatin1_aae02_0 ?_
  refine lv_if_eq (tgt := 17) hx hb dJ0_isLatin1_aae02_3 (by decide) (fun c1 => absurd c1 (by decide)) (fun _ => ?_)
  refine lv_aload_n hx hb dJ0_isLatin1_aae02_6 rfl (lv_at hl 0 rfl) ?_
  refine vk_getf (own := RJ0) hx hb ((hE.1.1 w hw).2.1) hS hown (zh hts k6_52) (fun _ h9 => h9) dJ0_isLatin1_aae02_7 ?_
  refine lv_if_ne (tgt := 17) hx hb dJ0_isLatin1_aae02_10 (by decide) (fun c1 => absurd rfl c1) (fun _ => ?_)
  refine lv_iconst (v := 1) hx hb dJ0_isLatin1_aae02_13 (by decide) ?_
  refine lv_goto (tgt := 18) hx hb dJ0_isLatin1_aae02_14 (by decide) ?_
  exact hend _ _ _ _ znar1 hP hD hS dJ0_isLatin1_aae02_18
def fJ0_length_8abf5 (N : Nat) (w : Nat) : Option Int32 := if w < 12 then some (nI (zsl.getD w 0)) else none
def fJ0_charAt_5068e (N : Nat) (w : Nat) (x1 : Int32) : Option Int32 := if w < 12 then (if x1 < 0 ∨ zsl.getD w 0 ≤ x1.toNatClampNeg then none else some ((zsb.getD w []).getD x1.toNatClampNeg 0)) else none
theorem zlen_lt {N w : Nat} {r : Int32} (h : fJ0_length_8abf5 N w = some r) : w < 12 := by
  by_cases hw : w < 12
  · exact hw
  · rw [fJ0_length_8abf5, if_neg hw] at h; cases h
theorem zchr_lt {N w : Nat} {x r : Int32} (h : fJ0_charAt_5068e N w x = some r) : w < 12 := by
  by_cases hw : w < 12
  · exact hw
  · rw [fJ0_charAt_5068e, if_neg hw] at h; cases h
theorem zsl_lt {w : Nat} (hw : w < 12) : zsl.getD w 0 < 7 := by
  rcases (show w = 0 ∨ w = 1 ∨ w = 2 ∨ w = 3 ∨ w = 4 ∨ w = 5 ∨ w = 6 ∨ w = 7 ∨ w = 8 ∨ w = 9 ∨ w = 10 ∨ w = 11 by omega) with rfl | rfl | rfl | rfl | rfl | rfl | rfl | rfl | rfl | rfl | rfl | rfl <;> decide
theorem zsb_ok : ∀ w, w < 12 → ∀ j, j < zsl.getD w 0 → ((((zsb.getD w []).getD j 0 &&& 255).toUInt32 % 65536).toInt32 = (zsb.getD w []).getD j 0 ∧ narrow .char (.int ((zsb.getD w []).getD j 0)) = .int ((zsb.getD w []).getD j 0)) := by decide +kernel
set_option maxHeartbeats 4000000 in
set_option maxRecDepth 100000 in
theorem qJ0_length_8abf5 (l : Launch) (D : va_G) (E : zE) (KL : List Nat) (kc : Nat → zKC) (on : zNS) (rw rd ft tr : zOS) (la : Nat → zLS) (mo : zMS) (N sz : Nat) (w : Nat) (out : Int32) (hF : fJ0_length_8abf5 N w = some out) : zCi l yJ0_length_8abf5 zwJ0_length_8abf5 ({ frames := 1, cells := 0, slots := 0, locals := 20 } : Room) [.ref (E.2.2.2.2.2.1 w)] D E sz (zW E KL kc on rw rd ft tr la mo) (zW E KL kc on rw rd ft tr la mo) out 0 0 := by
  have hw := zlen_lt hF
  rw [fJ0_length_8abf5, if_pos hw] at hF
  obtain rfl := Option.some.inj hF
  refine zent_i (cc := cJ0_length_8abf5) (nL := 1) (by decide) rfl (Nat.le_of_ble_eq_true rfl) ?_
  intro p e s m args below meth c Q A hx hb hml hown hts hA hK hP hD hS hE ls hl hend
  have hown : s.vm.findClass RJ0 = some m.cls := hown
  have hl : lv_has ls 1 [(0, .ref (E.2.2.2.2.2.1 w))] := hl
  refine lv_aload_n hx hb dJ0_length_8abf5_0 rfl (lv_at hl 0 rfl) ?_
  refine vk_getf (own := RJ0) hx hb ((hE.1.1 w hw).2.2.1) hS hown (zh hts k6_51) (fun _ h9 => h9) dJ0_length_8abf5_1 ?_
  refine va_tlen hx hb (hE.1.1 w hw).2.2.2 hS (v := nI (zsl.getD w 0)) rfl dJ0_length_8abf5_4 ?_
  refine lv_aload_n hx hb dJ0_length_8abf5_5 rfl (lv_at hl 0 rfl) ?_
  refine zcall_i (va_runV (As := []) (rest := [.int (nI (zsl.getD w 0))]) ⟨hx, hb, hml, hown, hts⟩ (qcoder l D E _ _ w hw) (cwV 0 hts (zgV k1_138 k1_139 k1_140 k0_11 k1_141) rfl rfl rfl (by decide +kernel) ⟨Nat.le_of_ble_eq_true rfl, Nat.le_of_ble_eq_true rfl⟩) (zpv hE hS hA hK hP hD (vk_recv hE.1 hw hS)) rfl rfl hl.1 rfl (lv_room (Nat.le_of_ble_eq_true rfl)) dJ0_length_8abf5_6 ⟨Nat.zero_le _, Nat.zero_le _⟩) hD hS hA (fun H locs hP hD hS => ?_)
  refine lv_ishr hx hb dJ0_length_8abf5_9 ?_
  refine lv_topi (fun y hy => ?_)
  have hy2 : y = nI (zsl.getD w 0) := by
    rw [hy]
    rcases (show w = 0 ∨ w = 1 ∨ w = 2 ∨ w = 3 ∨ w = 4 ∨ w = 5 ∨ w = 6 ∨ w = 7 ∨ w = 8 ∨ w = 9 ∨ w = 10 ∨ w = 11 by omega) with rfl | rfl | rfl | rfl | rfl | rfl | rfl | rfl | rfl | rfl | rfl | rfl <;> decide
  subst hy2
  exact hend _ _ _ _ hP hD hS dJ0_length_8abf5_10
set_option maxHeartbeats 4000000 in
set_option maxRecDepth 100000 in
theorem qpreN (l : Launch) (D : va_G) (E : zE) (W0 : va_W) (sz : Nat) (x0 x1 : Int32) (h : 0 ≤ x0 ∧ x0 < x1) : zCi l yJ3_checkIndex_8e157 zwJ3_checkIndex_8e157 ({ frames := 0, cells := 0, slots := 0, locals := 0 } : Room) [.int x0, .int x1, .null] D E sz W0 W0 x0 0 0 := by
  refine zent_i (cc := cJ3_checkIndex_8e157) (nL := 3) (by decide) rfl (Nat.le_of_ble_eq_true rfl) ?_
  intro p e s m args below meth c Q A hx hb hml hown hts hA hK hP hD hS hE ls hl hend
  have hl : lv_has ls 3 [(0, .int x0), (1, .int x1), (2, .null)] := hl
  refine lv_iload_n hx hb dJ3_checkIndex_8e157_0 rfl (lv_at hl 0 rfl) ?_
  refine lv_if_lt (tgt := 9) hx hb dJ3_checkIndex_8e157_1 (by decide) (fun c1 => absurd h.1 (Int32.not_le.mpr c1)) (fun _ => ?_)
  refine lv_iload_n hx hb dJ3_checkIndex_8e157_4 rfl (lv_at hl 0 rfl) ?_
  refine lv_iload_n hx hb dJ3_checkIndex_8e157_5 rfl (lv_at hl 1 rfl) ?_
  refine lv_icmp_lt (tgt := 16) hx hb dJ3_checkIndex_8e157_6 (by decide) (fun _ => ?_) (fun c1 => absurd h.2 c1)
  refine lv_iload_n hx hb dJ3_checkIndex_8e157_16 rfl (lv_at hl 0 rfl) ?_
  exact hend _ _ _ _ hP hD hS dJ3_checkIndex_8e157_17
set_option maxHeartbeats 4000000 in
set_option maxRecDepth 100000 in
theorem qpreR (l : Launch) (D : va_G) (E : zE) (W0 : va_W) (sz : Nat) (t : Nat) (x0 x1 : Int32) (h : 0 ≤ x0 ∧ x0 < x1) : zCi l yJ3_checkIndex_8e157 zwJ3_checkIndex_8e157 ({ frames := 0, cells := 0, slots := 0, locals := 0 } : Room) [.int x0, .int x1, .ref t] D E sz W0 W0 x0 0 0 := by
  refine zent_i (cc := cJ3_checkIndex_8e157) (nL := 3) (by decide) rfl (Nat.le_of_ble_eq_true rfl) ?_
  intro p e s m args below meth c Q A hx hb hml hown hts hA hK hP hD hS hE ls hl hend
  have hl : lv_has ls 3 [(0, .int x0), (1, .int x1), (2, .ref t)] := hl
  refine lv_iload_n hx hb dJ3_checkIndex_8e157_0 rfl (lv_at hl 0 rfl) ?_
  refine lv_if_lt (tgt := 9) hx hb dJ3_checkIndex_8e157_1 (by decide) (fun c1 => absurd h.1 (Int32.not_le.mpr c1)) (fun _ => ?_)
  refine lv_iload_n hx hb dJ3_checkIndex_8e157_4 rfl (lv_at hl 0 rfl) ?_
  refine lv_iload_n hx hb dJ3_checkIndex_8e157_5 rfl (lv_at hl 1 rfl) ?_
  refine lv_icmp_lt (tgt := 16) hx hb dJ3_checkIndex_8e157_6 (by decide) (fun _ => ?_) (fun c1 => absurd h.2 c1)
  refine lv_iload_n hx hb dJ3_checkIndex_8e157_16 rfl (lv_at hl 0 rfl) ?_
  exact hend _ _ _ _ hP hD hS dJ3_checkIndex_8e157_17
set_option maxHeartbeats 4000000 in
set_option maxRecDepth 100000 in
theorem qchk (l : Launch) (D : va_G) (E : zE) (W0 : va_W) (sz : Nat) (x0 x1 : Int32) (h : 0 ≤ x0 ∧ x0 < x1) : zCv l yJ0_checkIndex_df160 zwJ0_checkIndex_df160 ({ frames := 1, cells := 0, slots := 0, locals := 22 } : Room) [.int x0, .int x1] D E sz W0 W0 0 0 := by
  refine zent_v (cc := cJ0_checkIndex_df160) (nL := 2) (by decide) rfl (Nat.le_of_ble_eq_true rfl) ?_
  intro p e s m args below meth c Q A hx hb hml hown hts hA hK hP hD hS hE ls hl hend
  have hown : s.vm.findClass RJ0 = some m.cls := hown
  have hl : lv_has ls 2 [(0, .int x0), (1, .int x1)] := hl
  refine lv_iload_n hx hb dJ0_checkIndex_df160_0 rfl (lv_at hl 0 rfl) ?_
  refine lv_iload_n hx hb dJ0_checkIndex_df160_1 rfl (lv_at hl 1 rfl) ?_
  rcases hE.2.2.1 with hz | ⟨t, hz⟩
  ·
    refine va_gets (own := RJ0) hx hb hz hS hown (zh hts k1_158) (fun _ h9 => h9) dJ0_checkIndex_df160_2 ?_
    refine zcall_i (va_runS (As := [.int x0, .int x1, .null]) (rest := []) ⟨hx, hb, hml, hown, hts⟩ (qpreN l D E _ _ x0 x1 h) (va_cwS 3 hts (zgS k1_160 k1_161 k0_13 k1_162) rfl rfl rfl (by decide +kernel) ⟨Nat.le_of_ble_eq_true rfl, Nat.le_of_ble_eq_true rfl⟩) (zps hE hS hA hK hP hD) rfl rfl hl.1 rfl (lv_room (Nat.le_of_ble_eq_true rfl)) dJ0_checkIndex_df160_5 ⟨Nat.zero_le _, Nat.zero_le _⟩) hD hS hA (fun H locs hP hD hS => ?_)
    refine lv_pop hx hb dJ0_checkIndex_df160_8 rfl ?_
    exact hend _ _ _ _ hP hD hS dJ0_checkIndex_df160_9
  ·
    refine va_gets (own := RJ0) hx hb hz hS hown (zh hts k1_158) (fun _ h9 => h9) dJ0_checkIndex_df160_2 ?_
    refine zcall_i (va_runS (As := [.int x0, .int x1, .ref t]) (rest := []) ⟨hx, hb, hml, hown, hts⟩ (qpreR l D E _ _ t x0 x1 h) (va_cwS 3 hts (zgS k1_160 k1_161 k0_13 k1_162) rfl rfl rfl (by decide +kernel) ⟨Nat.le_of_ble_eq_true rfl, Nat.le_of_ble_eq_true rfl⟩) (zps hE hS hA hK hP hD) rfl rfl hl.1 rfl (lv_room (Nat.le_of_ble_eq_true rfl)) dJ0_checkIndex_df160_5 ⟨Nat.zero_le _, Nat.zero_le _⟩) hD hS hA (fun H locs hP hD hS => ?_)
    refine lv_pop hx hb dJ0_checkIndex_df160_8 rfl ?_
    exact hend _ _ _ _ hP hD hS dJ0_checkIndex_df160_9
set_option maxHeartbeats 4000000 in
set_option maxRecDepth 100000 in
theorem qlchr (l : Launch) (D : va_G) (E : zE) (W0 : va_W) (sz : Nat) (w : Nat) (hw : w < 12) (x1 : Int32) (h : ¬ (x1 < 0 ∨ zsl.getD w 0 ≤ x1.toNatClampNeg)) : zCi l yJ1_charAt_3b067 zwJ1_charAt_3b067 ({ frames := 2, cells := 0, slots := 0, locals := 43 } : Room) [.ref (E.2.2.2.2.2.2 w), .int x1] D E sz W0 W0 ((zsb.getD w []).getD x1.toNatClampNeg 0) 0 0 := by
  obtain ⟨j, hj, rfl⟩ := nI_of (x := x1) (fun q => h (Or.inl q))
  have hjl : j < zsl.getD w 0 := by
    rcases Nat.lt_or_ge j (zsl.getD w 0) with q | q
    · exact q
    · exact absurd (Or.inr (by rw [nI_clamp hj]; exact q)) h
  rw [nI_clamp hj]
  have h7 := zsl_lt hw
  refine zent_c (cc := cJ1_charAt_3b067) (nL := 2) (by decide) rfl (Nat.le_of_ble_eq_true rfl) ?_
  intro p e s m args below meth c Q A hx hb hml hown hts hA hK hP hD hS hE ls hl hend
  have hown : s.vm.findClass RJ1 = some m.cls := hown
  have hl : lv_has ls 2 [(0, .ref (E.2.2.2.2.2.2 w)), (1, .int (nI j))] := hl
  refine lv_iload_n hx hb dJ1_charAt_3b067_0 rfl (lv_at hl 1 rfl) ?_
  refine lv_aload_n hx hb dJ1_charAt_3b067_1 rfl (lv_at hl 0 rfl) ?_
  refine va_tlen hx hb (hE.1.1 w hw).2.2.2 hS (v := nI (zsl.getD w 0)) rfl dJ1_charAt_3b067_2 ?_
  refine zcall_v (va_runS (As := [.int (nI j), .int (nI (zsl.getD w 0))]) (rest := []) ⟨hx, hb, hml, hown, hts⟩ (qchk l D E _ _ (nI j) (nI (zsl.getD w 0)) ⟨nI_pos' hj, nI_lt hjl (by omega)⟩) (va_cwS 2 hts (zgS k1_155 k1_156 k0_11 k1_157) rfl rfl rfl (by decide +kernel) ⟨Nat.le_of_ble_eq_true rfl, Nat.le_of_ble_eq_true rfl⟩) (zps hE hS hA hK hP hD) rfl rfl hl.1 rfl (lv_room (Nat.le_of_ble_eq_true rfl)) dJ1_charAt_3b067_3 ⟨Nat.zero_le _, Nat.zero_le _⟩) hD hS hA (fun H locs hP hD hS => ?_)
  refine lv_aload_n hx hb dJ1_charAt_3b067_6 rfl (lv_at hl 0 rfl) ?_
  refine lv_iload_n hx hb dJ1_charAt_3b067_7 rfl (lv_at hl 1 rfl) ?_
  refine va_tb hx hb (hE.1.1 w hw).2.2.2 hS (vp_in_nI hjl (by omega)) (v := .int ((zsb.getD w []).getD j 0)) (by rw [nI_clamp hj]) dJ1_charAt_3b067_8 ?_
  refine lv_sipush (v := 255) hx hb dJ1_charAt_3b067_9 (by decide) ?_
  refine lv_iand hx hb dJ1_charAt_3b067_12 ?_
  refine lv_i2c (v := (zsb.getD w []).getD j 0) hx hb dJ1_charAt_3b067_13 (zsb_ok w hw j hjl).1 ?_
  exact hend _ _ _ _ (zsb_ok w hw j hjl).2 hP hD hS dJ1_charAt_3b067_14
set_option maxHeartbeats 4000000 in
set_option maxRecDepth 100000 in
theorem qJ0_charAt_5068e (l : Launch) (D : va_G) (E : zE) (KL : List Nat) (kc : Nat → zKC) (on : zNS) (rw rd ft tr : zOS) (la : Nat → zLS) (mo : zMS) (N sz : Nat) (w : Nat) (x1 out : Int32) (hF : fJ0_charAt_5068e N w x1 = some out) : zCi l yJ0_charAt_5068e zwJ0_charAt_5068e ({ frames := 3, cells := 0, slots := 0, locals := 64 } : Room) [.ref (E.2.2.2.2.2.1 w), .int x1] D E sz (zW E KL kc on rw rd ft tr la mo) (zW E KL kc on rw rd ft tr la mo) out 0 0 := by
  have hw := zchr_lt hF
  rw [fJ0_charAt_5068e, if_pos hw] at hF
  obtain ⟨h, hF⟩ := zgd hF
  obtain rfl := Option.some.inj hF
  refine zent_c (cc := cJ0_charAt_5068e) (nL := 2) (by decide) rfl (Nat.le_of_ble_eq_true rfl) ?_
  intro p e s m args below meth c Q A hx hb hml hown hts hA hK hP hD hS hE ls hl hend
  have hown : s.vm.findClass RJ0 = some m.cls := hown
  have hl : lv_has ls 2 [(0, .ref (E.2.2.2.2.2.1 w)), (1, .int x1)] := hl
  refine lv_aload_n hx hb dJ0_charAt_5068e_0 rfl (lv_at hl 0 rfl) ?_
  refine zcall_i (va_runV (As := []) (rest := []) ⟨hx, hb, hml, hown, hts⟩ (qlat l D E _ _ w hw) (cwV 0 hts (zgV k1_148 k1_149 k1_150 k0_11 k1_151) rfl rfl rfl (by decide +kernel) ⟨Nat.le_of_ble_eq_true rfl, Nat.le_of_ble_eq_true rfl⟩) (zpv hE hS hA hK hP hD (vk_recv hE.1 hw hS)) rfl rfl hl.1 rfl (lv_room (Nat.le_of_ble_eq_true rfl)) dJ0_charAt_5068e_1 ⟨Nat.zero_le _, Nat.zero_le _⟩) hD hS hA (fun H locs hP hD hS => ?_)
  refine lv_if_eq (tgt := 16) hx hb dJ0_charAt_5068e_4 (by decide) (fun c1 => absurd c1 (by decide)) (fun _ => ?_)
  refine lv_aload_n hx hb dJ0_charAt_5068e_7 rfl (lv_at hl 0 rfl) ?_
  refine vk_getf (own := RJ0) hx hb ((hE.1.1 w hw).2.2.1) hS hown (zh hts k6_51) (fun _ h9 => h9) dJ0_charAt_5068e_8 ?_
  refine lv_iload_n hx hb dJ0_charAt_5068e_11 rfl (lv_at hl 1 rfl) ?_
  refine zcall_i (va_runS (As := [.ref (E.2.2.2.2.2.2 w), .int x1]) (rest := []) ⟨hx, hb, hml, hown, hts⟩ (qlchr l D E _ _ w hw x1 h) (va_cwS 2 hts (zgS k1_152 k1_153 k0_12 k1_154) rfl rfl rfl (by decide +kernel) ⟨Nat.le_of_ble_eq_true rfl, Nat.le_of_ble_eq_true rfl⟩) (zps hE hS hA hK hP hD) rfl rfl hl.1 rfl (lv_room (Nat.le_of_ble_eq_true rfl)) dJ0_charAt_5068e_12 ⟨Nat.zero_le _, Nat.zero_le _⟩) hD hS hA (fun H locs hP hD hS => ?_)
  refine hend _ _ _ _ ?_ hP hD hS dJ0_charAt_5068e_15
  obtain ⟨j, hj, rfl⟩ := nI_of (x := x1) (fun q => h (Or.inl q))
  rw [nI_clamp hj]
  refine (zsb_ok w hw j ?_).2
  rcases Nat.lt_or_ge j (zsl.getD w 0) with q | q
  · exact q
  · exact absurd (Or.inr (by rw [nI_clamp hj]; exact q)) h
