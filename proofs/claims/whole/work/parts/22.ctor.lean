section ZC
variable {p : Program} {l : Launch} {e : Env} {R : Room} {s : State} {m : MethodId} {args : Array Value} {below : List Frame} {meth : Method} {c : Code} {H : Heap} {locs : List Loc} {cells slots : Nat} {Q : State → Prop}
variable {cc : ByteArray} {pc : Nat} {ls : Array Slot} {rest : List Value} {D : va_G} {cl : List vw_C} {tys : List (ClassId × FieldType)} {ws : va_W} {A : Nat → Prop} {H0 : Heap}
theorem znewa (hexec : p.tables.exec = Jvm.exec) (hb : c.code = cc) {atype : ArrayType} (harr : (Cond.arrayClass (newarray.typeOf atype)).before args s = true) {cA : ClassId} (hfc : s.vm.findClass ("[" ++ (newarray.typeOf atype).toString) = some cA) (hP : va_P D cl ws H) (hD : va_D A ws) (hS : va_S A H0 H locs) (hA : ∀ q : Nat, H0.size ≤ q → A q)
    {n : Int32} {N' : Nat} {a0 : vp_A} (ha : ∀ cA : ClassId, vp_cell cA a0 = arrV cA N' (fun _ => defaultValue (newarray.typeOf atype))) (hn : ¬ n < 0) (hN : n.toNatClampNeg = N') (hbytes : N' * componentBytes (newarray.typeOf atype) ≤ 536870912) (hcells : cells + 1 ≤ R.cells) (hslots : slots + N' ≤ R.slots) {b : Nat} (hsz : H.size = b) (hdg : decode cc pc = .ok (.newarray atype, 2))
    (kk : ∀ (H1 : Heap), H1.size = b + 1 → va_P D cl (ws ++ [(b, .inl (cA, a0))]) H1 → va_D A (ws ++ [(b, .inl (cA, a0))]) → va_S A H0 H1 locs →
      W p l e R s m args below meth c H1 locs (cells + 1) (slots + N') Q (F0 m (pc + 2) ls (.ref b :: rest))) : W p l e R s m args below meth c H locs cells slots Q (F0 m pc ls (.int n :: rest)) := by
  subst hsz
  refine va_newaK hexec hb harr rfl hdg rfl hn hN hbytes hcells hslots rfl fun H1 cB e1 z1 o1 hAr hNm => ?_
  have hc : cB = cA := Option.some.inj (hNm.symm.trans hfc)
  subst hc
  have hk : ∀ (k : Nat) (x : Nat × va_E), ws[k]? = some x → H1[x.1]? = H[x.1]? := fun k x hx => o1 x.1 ((hP k x hx).lt)
  refine kk H1 z1 ((hP.kept hk).app (fun k x hx => ?_)) (hD.push hP rfl (hA _ hS.1)) ⟨Nat.le_trans hS.1 (by omega), fun x h1 h2 => (o1 x (Nat.lt_of_lt_of_le h1 hS.1)).trans (hS.2.1 x h1 h2), hS.2.2⟩
  have hz : k < 1 := (List.getElem?_eq_some_iff.mp hx).1
  rw [show k = 0 by omega] at hx
  cases hx
  show H1[H.size]? = some (vp_cell _ _)
  rw [ha]
  exact e1
theorem znewq (hexec : p.tables.exec = Jvm.exec) (hb : c.code = cc) {own C : String} {index : Nat} (hown : s.vm.findClass own = some m.cls) (hclink : (Cond.classLink own index C).before args s = true) (hover : va_AO C s) {cA : ClassId} (hfc : s.vm.findClass ("[" ++ (FieldType.object C).toString) = some cA) (hP : va_P D cl ws H) (hD : va_D A ws) (hS : va_S A H0 H locs) (hA : ∀ q : Nat, H0.size ≤ q → A q)
    {n : Int32} {N' : Nat} (hn : ¬ n < 0) (hN : n.toNatClampNeg = N') (hbytes : N' * 4 ≤ 536870912) (hcells : cells + 1 ≤ R.cells) (hslots : slots + N' ≤ R.slots) {b : Nat} (hsz : H.size = b) (hdg : decode cc pc = .ok (.anewarray index, 3))
    (kk : ∀ (H1 : Heap), H1.size = b + 1 → va_P D cl (ws ++ [(b, .inl (cA, N', .inr (.inr (.inr (.inr (fun _ => none))))))]) H1 → va_D A (ws ++ [(b, .inl (cA, N', .inr (.inr (.inr (.inr (fun _ => none))))))]) → va_S A H0 H1 locs →
      W p l e R s m args below meth c H1 locs (cells + 1) (slots + N') Q (F0 m (pc + 3) ls (.ref b :: rest))) : W p l e R s m args below meth c H locs cells slots Q (F0 m pc ls (.int n :: rest)) := by
  subst hsz
  subst hN
  refine W.anew hexec hb hown hclink (va_AO.use hover) rfl hdg rfl hn hbytes hcells hslots fun cB kA comp f1 f2 f3 f4 => ?_
  have hc : cB = cA := Option.some.inj (f1.symm.trans hfc)
  subst hc
  generalize hH1 : H.push ({ cls := cB, slots := Array.replicate n.toNatClampNeg .null, vm := .none } : Cell) = H1
  have z1 : H1.size = H.size + 1 := by rw [← hH1, Array.size_push]
  have e1 : H1[H.size]? = some (arrV cB n.toNatClampNeg (fun _ => .null)) := by rw [← hH1, Array.getElem?_push_size, ← arrV_new]
  have o1 : ∀ q : Nat, q < H.size → H1[q]? = H[q]? := fun q hq => by rw [← hH1, Array.getElem?_push, if_neg (Nat.ne_of_lt hq)]
  have hk : ∀ (k : Nat) (x : Nat × va_E), ws[k]? = some x → H1[x.1]? = H[x.1]? := fun k x hx => o1 x.1 ((hP k x hx).lt)
  refine kk H1 z1 ((hP.kept hk).app (fun k x hx => ?_)) (hD.push hP rfl (hA _ hS.1)) ⟨Nat.le_trans hS.1 (by omega), fun x h1 h2 => (o1 x (Nat.lt_of_lt_of_le h1 hS.1)).trans (hS.2.1 x h1 h2), hS.2.2⟩
  have hz : k < 1 := (List.getElem?_eq_some_iff.mp hx).1
  rw [show k = 0 by omega] at hx
  cases hx
  exact e1
theorem znewo {c0 : Code} (hexec : p.tables.exec = Jvm.exec) (hb : c0.code = cc) {own C : String} {T : u_T} {N ci index : Nat} {Ts : List Cond} (hts : ∀ w ∈ Ts, w.before args s = true) (hin : ∀ w ∈ u_ws C T N, w ∈ Ts) (ty : Nat → FieldType) (hty : ∀ k, k < N → parseFieldDescriptor (T k).2.2.1 = some (ty k)) (hown : s.vm.findClass own = some m.cls) (hcl : (Cond.classLink own index C).before args s = true) (hinst : (Cond.instantiable C N).before args s = true) (hini : (Cond.initialized C).before args s = true)
    (hK : va_K D cl tys s) (hP : va_P D cl ws H) (hD : va_D A ws) (hS : va_S A H0 H locs) (hA : ∀ q : Nat, H0.size ≤ q → A q) (hc : cl[ci]? = some (C, T, N)) {fs : List Value} (hfs : ∀ j, j < N → defaultValue (ty j) = vp_V fs j) (hcells : cells + 1 ≤ R.cells) (hslots : slots + N ≤ R.slots) {b : Nat} (hsz : H.size = b) (hdg : decode cc pc = .ok (.new index, 3))
    (kk : ∀ (H1 : Heap), va_P D cl (ws ++ [(b, .inr (ci, fs))]) H1 → va_D A (ws ++ [(b, .inr (ci, fs))]) → va_S A H0 H1 locs →
      W p l e R s m args below meth c0 H1 locs (cells + 1) (slots + N) Q (F0 m (pc + 3) ls (.ref b :: rest))) : W p l e R s m args below meth c0 H locs cells slots Q (F0 m pc ls rest) := by
  subst hsz
  exact zva_new hexec hb hts hin ty hty hown hcl hinst hini hK hP hD hS hA hc hfs hcells hslots hdg kk
end ZC
/-- a world, the object that is being made at its place, and what came behind it -/
def zQ (ws : va_W) (q0 : Nat) (X : Nat × va_E) (N : va_W) : va_W := ws.set q0 X ++ N
theorem zQ_0 {ws : va_W} {q0 : Nat} {X : Nat × va_E} (he : ws[q0]? = some X) : ws = zQ ws q0 X [] := by rw [zQ, List.append_nil, zset_self he]
theorem zQ_get {ws : va_W} {q0 : Nat} {X0 : Nat × va_E} (he : ws[q0]? = some X0) (X : Nat × va_E) (N : va_W) : (zQ ws q0 X N)[q0]? = some X := by
  have h := (List.getElem?_eq_some_iff.mp he).1
  rw [zQ, List.getElem?_append_left (by simpa using h)]
  exact zset_get he X
theorem zQ_set {ws : va_W} {q0 : Nat} {X0 : Nat × va_E} (he : ws[q0]? = some X0) (X Y : Nat × va_E) (N : va_W) : (zQ ws q0 X N).set q0 Y = zQ ws q0 Y N := by
  have h := (List.getElem?_eq_some_iff.mp he).1
  rw [zQ, zQ, List.set_append_left _ _ (by simpa using h), List.set_set]
theorem zQ_push (ws : va_W) (q0 : Nat) (X : Nat × va_E) (N : va_W) (Y : Nat × va_E) : zQ ws q0 X N ++ [Y] = zQ ws q0 X (N ++ [Y]) := by rw [zQ, zQ, List.append_assoc]
theorem zQ_getN {ws : va_W} {q0 : Nat} {X : Nat × va_E} {N : va_W} {i : Nat} {Y : Nat × va_E} (h : N[i]? = some Y) : (zQ ws q0 X N)[ws.length + i]? = some Y := by
  rw [zQ, List.getElem?_append_right (by simp)]
  simpa using h
theorem zQ_setN (ws : va_W) (q0 : Nat) (X : Nat × va_E) (N : va_W) (i : Nat) (Y : Nat × va_E) : (zQ ws q0 X N).set (ws.length + i) Y = zQ ws q0 X (N.set i Y) := by
  rw [zQ, zQ, List.set_append_right _ _ (by simp)]
  simp
theorem zQ_call (ws : va_W) (q0 : Nat) (X : Nat × va_E) (N : va_W) (i : Nat) (Y : Nat × va_E) (M : va_W) : zQ (zQ ws q0 X N) (ws.length + i) Y M = zQ ws q0 X (N.set i Y ++ M) := by
  rw [show zQ (zQ ws q0 X N) (ws.length + i) Y M = (zQ ws q0 X N).set (ws.length + i) Y ++ M from rfl, zQ_setN, zQ, zQ, List.append_assoc]
def zPc (D : va_G) (E : zE) (sz : Nat) (w : va_W) (U : State) : Prop := zPre D E sz w U ∧ va_AO RX3 U
def zCc (l : Launch) (y : MethodName) (ws : List Cond) (rm : Room) (av : List Value) (D : va_G) (E : zE) (sz : Nat) (w w' : va_W) (mc ms : Nat) : Prop :=
  Met l y ws rm (va_Pc av (zPc D E sz w)) (va_Qv (fun (_ : Unit) => True) (fun _ t => zOK D E (va_A w sz) w' t) (va_A w sz)) mc ms (va_A w sz)
theorem zpc {s : State} {H : Heap} {locs : List Loc} {As : List Value} {D : va_G} {E : zE} {w : va_W} {A : Nat → Prop} (hO : va_AO RX3 s) (hE : zSt E A s s.heap) (hS : va_S A s.heap H locs) (hA : ∀ q : Nat, s.heap.size ≤ q → A q) (hK : va_K D vwCl (zty E) s) (hP : va_P D vwCl w H) (hD : va_D A w) {sz : Nat} (hsz : H.size = sz) :
    PreS s H (va_Pc As (zPc D E sz w)) As := by
  subst hsz
  refine ⟨?_, fun U hU hW => ⟨rfl, zpre hE hS hA hK hP hD U hU hW, hO.moved hW.alike⟩⟩
  intro a U g mk q
  obtain ⟨q0, q1, q2⟩ := q
  obtain ⟨z0, z1⟩ := zblind (av := As) a U g mk ⟨q0, q1⟩
  exact ⟨z0, z1, va_AO.moved (u := U) (U := U.calling g mk a) (Vm.Alike.refl U.vm) q2⟩
theorem zent_ct {l : Launch} {y : MethodName} {ws ws' : List Cond} {rm : Room} {av : List Value} {D : va_G} {E : zE} {sz : Nat} {w w' : va_W} {mc ms : Nat} {cc : ByteArray} {nL : Nat} (hy : plainName y.cls = true) (hw : ws = Cond.code y cc nL (none) :: ws') (hav : (lg_sl av).length ≤ nL)
    (k : ∀ (p : Program) (e : Env) (s : State) (m : MethodId) (args : Array Value) (below : List Frame) (meth : Method) (c : Code) (Q : State → Prop) (A : Nat → Prop), p.tables.exec = Jvm.exec → c.code = cc → c.maxLocals = nL → s.vm.findClass y.cls = some m.cls → (∀ w ∈ ws, w.before args s = true) → (∀ q : Nat, s.heap.size ≤ q → A q) → va_K D vwCl (zty E) s → va_P D vwCl w s.heap → va_D A w → va_S A s.heap s.heap [] → zSt E A s s.heap → va_AO RX3 s → s.heap.size = sz → meth.name = y.name → ∀ ls : Array Slot, lv_has ls nL (lv_args 0 av) →
      (∀ (H : Heap) (locs : List Loc) (ls : Array Slot) (pc : Nat), va_P D vwCl w' H → va_D A w' → va_S A s.heap H locs → decode cc pc = .ok (.return_, 1) → W p l e rm s m args below meth c H locs mc ms Q (F0 m pc ls [])) → W p l e rm s m args below meth c s.heap [] 0 0 Q (F0 m 0 ls [])) : zCc l y ws rm av D E sz w w' mc ms := by
  refine Met.ofW (cc := cc) (maxL := nL) (ret := none) hy hw ?_
  intro p e s m args below meth c s₁ B hml hv
  obtain ⟨rfl, ⟨hsz, hP, hK, hD0, hE⟩, hO⟩ := hv
  have hx := B.exec
  have hb := B.bytes
  have hr := B.returns
  have hts := atoms_spec (ws := ws) B.pre
  have hown : s.vm.findClass y.cls = some m.cls := findClass_of_methodNamed B.named
  have hlocks := B.notSynchronized
  subst hsz
  have hD := hD0.self (sz := s.heap.size)
  have hl := lv_entry av (n := nL) hav
  rw [lg_entry_eq]
  generalize (lg_sl av ++ List.replicate (nL - (lg_sl av).length) Slot.unset).toArray = ls at hl ⊢
  refine k p e s m av.toArray below meth c _ (va_A w s.heap.size) hx hb hml hown hts (fun q h => Or.inr h) hK hP hD va_S.rf hE hO rfl (name_of_methodNamed B.named B.method).1 ls hl ?_
  intro H locs ls pc hP hD hS hd
  exact W.vret hx hb hr (fun t ht hW => ⟨⟨(), rfl, trivial, by rw [ht]; exact hP, va_K.moved hW.alike hK, hD⟩, hS.F ht⟩) hS.2.2 hd
theorem zcall_c {p : Program} {l : Launch} {e : Env} {R : Room} {s : State} {m : MethodId} {args : Array Value} {below : List Frame} {meth : Method} {c : Code} {H : Heap} {locs : List Loc} {cells slots : Nat} {Q : State → Prop} {mc ms pc : Nat} {ls : Array Slot} {st0 rest : List Value} {D : va_G} {E : zE} {w w' : va_W} {A : Nat → Prop} {H0 : Heap} {a : Array Value} {sz : Nat}
    (hr : va_Run p l e R s m args below meth c H locs cells slots mc ms (F0 m pc ls st0) rest (va_Qv (fun (_ : Unit) => True) (fun _ t => zOK D E (va_A w sz) w' t) (va_A w sz) a) (va_A w sz)) (hsz : H.size = sz) (hD : va_D A w) (hS : va_S A H0 H locs) (hA : ∀ q : Nat, H0.size ≤ q → A q)
    (kk : ∀ (H1 : Heap) (locs1 : List Loc), va_P D vwCl w' H1 → va_D A w' → va_S A H0 H1 locs1 → W p l e R s m args below meth c H1 locs1 (cells + mc) (slots + ms) Q (F0 m (pc + 3) ls rest)) : W p l e R s m args below meth c H locs cells slots Q (F0 m pc ls st0) := by
  subst hsz
  exact zcall_v hr hD hS hA kk
theorem zfco {s : State} {cA : ClassId} {C : String} (h : va_RA s cA (.object C)) : s.vm.findClass ("[" ++ (FieldType.object C).toString) = some cA := by
  obtain ⟨_, _, _, _, _, h⟩ := h
  exact h
set_option maxHeartbeats 400000 in
set_option maxRecDepth 100000 in
theorem qX7_init (l : Launch) (D : va_G) (E : zE) (ws : va_W) (q0 h0 : Nat) (he : ws[q0]? = some (h0, .inr (6, [.null, .null, .null]))) (sz : Nat) : zCc l yX7_init zwX7_init ({ frames := 1, cells := 3, slots := 336, locals := 23 } : Room) [.ref h0] D E sz ws (zQ ws q0 (h0, .inr (6, [.ref sz, .ref (sz + 1), .ref (sz + 2)])) [(sz, .inl (E.2.1, 8, .inl (zfl (fun _ => 0) 0 8 (-1)))), (sz + 1, .inl (E.2.1, 8, .inl (fun _ => 0))), (sz + 2, .inl (E.2.1, 320, .inl (fun _ => 0)))]) 3 336 := by
  refine zent_ct (cc := cX7_init) (nL := 1) (by decide) rfl (Nat.le_of_ble_eq_true rfl) ?_
  intro p e s m args below meth c Q A hx hb hml hown hts hA hK hP hD hS hE hO hsz0 hin ls hl hend
  have hown : s.vm.findClass RX7 = some m.cls := hown
  have hin : meth.name = "<init>" := hin
  have hl : lv_has ls 1 [(0, .ref h0)] := hl
  have hsz : s.heap.size = sz := hsz0
  rw [zQ_0 he] at hP hD
  refine lv_aload_n hx hb dX7_init_0 rfl (lv_at hl 0 rfl) ?_
  refine W.objInit hx hb hown (zh hts k0_34) (zh hts k0_27) (zh hts k0_28) rfl (by rw [hml]; exact hl.1) rfl dX7_init_1 (Nat.le_of_ble_eq_true rfl) (Nat.le_of_ble_eq_true rfl) ?_
  refine W.eq (g2 := F0 m 4 ls []) rfl ?_
  refine lv_aload_n hx hb dX7_init_4 rfl (lv_at hl 0 rfl) ?_
  refine lv_bipush (v := 8) hx hb dX7_init_5 (by decide) ?_
  refine znewa (atype := .int) (a0 := (8, .inl (fun _ => 0))) (N' := 8) (b := sz) hx hb (zh hts k0_48) (hK.2 1 _ rfl).2 hP hD hS hA (fun _ => rfl) (by decide) (by decide) (Nat.le_of_ble_eq_true rfl) (Nat.le_of_ble_eq_true rfl) (Nat.le_of_ble_eq_true rfl) hsz dX7_init_7 (fun H hsz hP hD hS => ?_)
  rw [zQ_push] at hP hD
  have hP : va_P D vwCl (zQ ws q0 (h0, .inr (6, [.null, .null, .null])) [(sz, .inl (E.2.1, 8, .inl (fun _ => 0)))]) H := hP
  have hD : va_D A (zQ ws q0 (h0, .inr (6, [.null, .null, .null])) [(sz, .inl (E.2.1, 8, .inl (fun _ => 0)))]) := hD
  have hsz : H.size = sz + 1 := hsz
  refine va_putF (D := D) (ci := 6) (v := .ref sz) (ty := .array .int) (C := RX7) (T := TX7) (N := 3) hx hb hts (zi iX7) tyX7 tyX7_ok nmX7 hown hK hP hD hS q0 (zQ_get he _ _) rfl 0 (by decide) (zh hts k0_38) (fun _ h9 => h9) rfl hin rfl (by decide +kernel) rfl rfl (Nat.le_of_ble_eq_true rfl) dX7_init_9 (fun H locs hP hD hS => ?_)
  rw [zQ_set he] at hP hD
  have hP : va_P D vwCl (zQ ws q0 (h0, .inr (6, [.ref sz, .null, .null])) [(sz, .inl (E.2.1, 8, .inl (fun _ => 0)))]) H := hP
  have hD : va_D A (zQ ws q0 (h0, .inr (6, [.ref sz, .null, .null])) [(sz, .inl (E.2.1, 8, .inl (fun _ => 0)))]) := hD
  refine zsz (fun hz9 => ?_)
  have hz8 : sz < H.size := (hP (ws.length + 0) _ (zQ_getN rfl)).lt
  rw [hsz0] at hz9
  have hsz : H.size = sz + 1 := Nat.le_antisymm hz9 hz8
  refine lv_aload_n hx hb dX7_init_12 rfl (lv_at hl 0 rfl) ?_
  refine lv_bipush (v := 8) hx hb dX7_init_13 (by decide) ?_
  refine znewa (atype := .int) (a0 := (8, .inl (fun _ => 0))) (N' := 8) (b := sz + 1) hx hb (zh hts k0_48) (hK.2 1 _ rfl).2 hP hD hS hA (fun _ => rfl) (by decide) (by decide) (Nat.le_of_ble_eq_true rfl) (Nat.le_of_ble_eq_true rfl) (Nat.le_of_ble_eq_true rfl) hsz dX7_init_15 (fun H hsz hP hD hS => ?_)
  rw [zQ_push] at hP hD
  have hP : va_P D vwCl (zQ ws q0 (h0, .inr (6, [.ref sz, .null, .null])) [(sz, .inl (E.2.1, 8, .inl (fun _ => 0))), (sz + 1, .inl (E.2.1, 8, .inl (fun _ => 0)))]) H := hP
  have hD : va_D A (zQ ws q0 (h0, .inr (6, [.ref sz, .null, .null])) [(sz, .inl (E.2.1, 8, .inl (fun _ => 0))), (sz + 1, .inl (E.2.1, 8, .inl (fun _ => 0)))]) := hD
  have hsz : H.size = sz + 2 := hsz
  refine va_putF (D := D) (ci := 6) (v := .ref (sz + 1)) (ty := .array .int) (C := RX7) (T := TX7) (N := 3) hx hb hts (zi iX7) tyX7 tyX7_ok nmX7 hown hK hP hD hS q0 (zQ_get he _ _) rfl 1 (by decide) (zh hts k0_39) (fun _ h9 => h9) rfl hin rfl (by decide +kernel) rfl rfl (Nat.le_of_ble_eq_true rfl) dX7_init_17 (fun H locs hP hD hS => ?_)
  rw [zQ_set he] at hP hD
  have hP : va_P D vwCl (zQ ws q0 (h0, .inr (6, [.ref sz, .ref (sz + 1), .null])) [(sz, .inl (E.2.1, 8, .inl (fun _ => 0))), (sz + 1, .inl (E.2.1, 8, .inl (fun _ => 0)))]) H := hP
  have hD : va_D A (zQ ws q0 (h0, .inr (6, [.ref sz, .ref (sz + 1), .null])) [(sz, .inl (E.2.1, 8, .inl (fun _ => 0))), (sz + 1, .inl (E.2.1, 8, .inl (fun _ => 0)))]) := hD
  refine zsz (fun hz9 => ?_)
  have hz8 : sz + 1 < H.size := (hP (ws.length + 1) _ (zQ_getN rfl)).lt
  rw [hsz0] at hz9
  have hsz : H.size = sz + 2 := Nat.le_antisymm hz9 hz8
  refine lv_aload_n hx hb dX7_init_20 rfl (lv_at hl 0 rfl) ?_
  refine lv_sipush (v := 320) hx hb dX7_init_21 (by decide) ?_
  refine znewa (atype := .int) (a0 := (320, .inl (fun _ => 0))) (N' := 320) (b := sz + 2) hx hb (zh hts k0_48) (hK.2 1 _ rfl).2 hP hD hS hA (fun _ => rfl) (by decide) (by decide) (Nat.le_of_ble_eq_true rfl) (Nat.le_of_ble_eq_true rfl) (Nat.le_of_ble_eq_true rfl) hsz dX7_init_24 (fun H hsz hP hD hS => ?_)
  rw [zQ_push] at hP hD
  have hP : va_P D vwCl (zQ ws q0 (h0, .inr (6, [.ref sz, .ref (sz + 1), .null])) [(sz, .inl (E.2.1, 8, .inl (fun _ => 0))), (sz + 1, .inl (E.2.1, 8, .inl (fun _ => 0))), (sz + 2, .inl (E.2.1, 320, .inl (fun _ => 0)))]) H := hP
  have hD : va_D A (zQ ws q0 (h0, .inr (6, [.ref sz, .ref (sz + 1), .null])) [(sz, .inl (E.2.1, 8, .inl (fun _ => 0))), (sz + 1, .inl (E.2.1, 8, .inl (fun _ => 0))), (sz + 2, .inl (E.2.1, 320, .inl (fun _ => 0)))]) := hD
  have hsz : H.size = sz + 3 := hsz
  refine va_putF (D := D) (ci := 6) (v := .ref (sz + 2)) (ty := .array .int) (C := RX7) (T := TX7) (N := 3) hx hb hts (zi iX7) tyX7 tyX7_ok nmX7 hown hK hP hD hS q0 (zQ_get he _ _) rfl 2 (by decide) (zh hts k0_40) (fun _ h9 => h9) rfl hin rfl (by decide +kernel) rfl rfl (Nat.le_of_ble_eq_true rfl) dX7_init_26 (fun H locs hP hD hS => ?_)
  rw [zQ_set he] at hP hD
  have hP : va_P D vwCl (zQ ws q0 (h0, .inr (6, [.ref sz, .ref (sz + 1), .ref (sz + 2)])) [(sz, .inl (E.2.1, 8, .inl (fun _ => 0))), (sz + 1, .inl (E.2.1, 8, .inl (fun _ => 0))), (sz + 2, .inl (E.2.1, 320, .inl (fun _ => 0)))]) H := hP
  have hD : va_D A (zQ ws q0 (h0, .inr (6, [.ref sz, .ref (sz + 1), .ref (sz + 2)])) [(sz, .inl (E.2.1, 8, .inl (fun _ => 0))), (sz + 1, .inl (E.2.1, 8, .inl (fun _ => 0))), (sz + 2, .inl (E.2.1, 320, .inl (fun _ => 0)))]) := hD
  refine zsz (fun hz9 => ?_)
  have hz8 : sz + 2 < H.size := (hP (ws.length + 2) _ (zQ_getN rfl)).lt
  rw [hsz0] at hz9
  have hsz : H.size = sz + 3 := Nat.le_antisymm hz9 hz8
  refine lv_aload_n hx hb dX7_init_29 rfl (lv_at hl 0 rfl) ?_
  refine va_get (D := D) (ci := 6) (v := .ref sz) (C := RX7) (T := TX7) (N := 3) hx hb hts (zi iX7) hown hK hP q0 (zQ_get he _ _) rfl 0 (by decide) (zh hts k0_38) (fun _ h9 => h9) rfl dX7_init_30 ?_
  refine lv_iconst (v := -1) hx hb dX7_init_33 (by decide) ?_
  refine zcall_v (va_runS (As := [.ref sz, .int (-1)]) (rest := []) ⟨hx, hb, hml, hown, hts⟩ (zfill l D E _ (ws.length + 0) (zQ_getN rfl) _ (by decide) (-1)) (va_cwS 2 hts (zgS k0_35 k0_36 k0_3 k0_37) rfl rfl rfl (by decide +kernel) ⟨Nat.le_of_ble_eq_true rfl, Nat.le_of_ble_eq_true rfl⟩) (zps hE hS hA hK hP hD) rfl rfl hl.1 rfl (lv_room (Nat.le_of_ble_eq_true rfl)) dX7_init_34 ⟨Nat.le_of_ble_eq_true rfl, Nat.le_of_ble_eq_true rfl⟩) hD hS hA (fun H locs hP hD hS => ?_)
  rw [zQ_setN] at hP hD
  have hP : va_P D vwCl (zQ ws q0 (h0, .inr (6, [.ref sz, .ref (sz + 1), .ref (sz + 2)])) [(sz, .inl (E.2.1, 8, .inl (zfl (fun _ => 0) 0 8 (-1)))), (sz + 1, .inl (E.2.1, 8, .inl (fun _ => 0))), (sz + 2, .inl (E.2.1, 320, .inl (fun _ => 0)))]) H := hP
  have hD : va_D A (zQ ws q0 (h0, .inr (6, [.ref sz, .ref (sz + 1), .ref (sz + 2)])) [(sz, .inl (E.2.1, 8, .inl (zfl (fun _ => 0) 0 8 (-1)))), (sz + 1, .inl (E.2.1, 8, .inl (fun _ => 0))), (sz + 2, .inl (E.2.1, 320, .inl (fun _ => 0)))]) := hD
  exact hend _ _ _ _ hP hD hS dX7_init_37
set_option maxHeartbeats 400000 in
set_option maxRecDepth 100000 in
theorem qX6_init (l : Launch) (D : va_G) (E : zE) (ws : va_W) (q0 h0 : Nat) (he : ws[q0]? = some (h0, .inr (5, [.int 0, .int 0, .int 0, .null, .int 0, .int 0, .int 0, .int 0]))) (sz : Nat) : zCc l yX6_init zwX6_init ({ frames := 1, cells := 1, slots := 500, locals := 12 } : Room) [.ref h0] D E sz ws (zQ ws q0 (h0, .inr (5, [.int 0, .int 0, .int 0, .ref sz, .int 0, .int 0, .int 0, .int 0])) [(sz, .inl (E.2.2.1, 500, .inl (fun _ => 0)))]) 1 500 := by
  refine zent_ct (cc := cX6_init) (nL := 1) (by decide) rfl (Nat.le_of_ble_eq_true rfl) ?_
  intro p e s m args below meth c Q A hx hb hml hown hts hA hK hP hD hS hE hO hsz0 hin ls hl hend
  have hown : s.vm.findClass RX6 = some m.cls := hown
  have hin : meth.name = "<init>" := hin
  have hl : lv_has ls 1 [(0, .ref h0)] := hl
  have hsz : s.heap.size = sz := hsz0
  rw [zQ_0 he] at hP hD
  refine lv_aload_n hx hb dX6_init_0 rfl (lv_at hl 0 rfl) ?_
  refine W.objInit hx hb hown (zh hts k0_54) (zh hts k0_27) (zh hts k0_28) rfl (by rw [hml]; exact hl.1) rfl dX6_init_1 (Nat.le_of_ble_eq_true rfl) (Nat.le_of_ble_eq_true rfl) ?_
  refine W.eq (g2 := F0 m 4 ls []) rfl ?_
  refine lv_aload_n hx hb dX6_init_4 rfl (lv_at hl 0 rfl) ?_
  refine lv_sipush (v := 500) hx hb dX6_init_5 (by decide) ?_
  refine znewa (atype := .byte) (a0 := (500, .inl (fun _ => 0))) (N' := 500) (b := sz) hx hb (zh hts k0_83) (hK.2 0 _ rfl).2 hP hD hS hA (fun _ => rfl) (by decide) (by decide) (Nat.le_of_ble_eq_true rfl) (Nat.le_of_ble_eq_true rfl) (Nat.le_of_ble_eq_true rfl) hsz dX6_init_8 (fun H hsz hP hD hS => ?_)
  rw [zQ_push] at hP hD
  have hP : va_P D vwCl (zQ ws q0 (h0, .inr (5, [.int 0, .int 0, .int 0, .null, .int 0, .int 0, .int 0, .int 0])) [(sz, .inl (E.2.2.1, 500, .inl (fun _ => 0)))]) H := hP
  have hD : va_D A (zQ ws q0 (h0, .inr (5, [.int 0, .int 0, .int 0, .null, .int 0, .int 0, .int 0, .int 0])) [(sz, .inl (E.2.2.1, 500, .inl (fun _ => 0)))]) := hD
  have hsz : H.size = sz + 1 := hsz
  refine va_putF (D := D) (ci := 5) (v := .ref sz) (ty := .array .byte) (C := RX6) (T := TX6) (N := 8) hx hb hts (zi iX6) tyX6 tyX6_ok nmX6 hown hK hP hD hS q0 (zQ_get he _ _) rfl 3 (by decide) (zh hts k0_61) (fun _ h9 => h9) rfl hin rfl (by decide +kernel) rfl rfl (Nat.le_of_ble_eq_true rfl) dX6_init_10 (fun H locs hP hD hS => ?_)
  rw [zQ_set he] at hP hD
  have hP : va_P D vwCl (zQ ws q0 (h0, .inr (5, [.int 0, .int 0, .int 0, .ref sz, .int 0, .int 0, .int 0, .int 0])) [(sz, .inl (E.2.2.1, 500, .inl (fun _ => 0)))]) H := hP
  have hD : va_D A (zQ ws q0 (h0, .inr (5, [.int 0, .int 0, .int 0, .ref sz, .int 0, .int 0, .int 0, .int 0])) [(sz, .inl (E.2.2.1, 500, .inl (fun _ => 0)))]) := hD
  refine zsz (fun hz9 => ?_)
  have hz8 : sz < H.size := (hP (ws.length + 0) _ (zQ_getN rfl)).lt
  rw [hsz0] at hz9
  have hsz : H.size = sz + 1 := Nat.le_antisymm hz9 hz8
  exact hend _ _ _ _ hP hD hS dX6_init_13
set_option maxHeartbeats 400000 in
set_option maxRecDepth 100000 in
theorem qX4_init (l : Launch) (D : va_G) (E : zE) (ws : va_W) (q0 h0 : Nat) (he : ws[q0]? = some (h0, .inr (3, [.int 0, .int 0, .int 0, .int 0, .int 0, .int 0, .int 0, .int 0, .int 0, .null, .null, .null, .null, .null, .null, .null, .null, .null, .null]))) (sz : Nat) : zCc l yX4_init zwX4_init ({ frames := 1, cells := 10, slots := 114, locals := 12 } : Room) [.ref h0] D E sz ws (zQ ws q0 (h0, .inr (3, [.int 0, .int 0, .int 0, .int 0, .int 0, .int 0, .int 0, .int 0, .int 0, .ref sz, .ref (sz + 1), .ref (sz + 2), .ref (sz + 3), .ref (sz + 4), .ref (sz + 5), .ref (sz + 6), .ref (sz + 7), .ref (sz + 8), .ref (sz + 9)])) [(sz, .inl (E.2.1, 8, .inl (fun _ => 0))), (sz + 1, .inl (E.2.1, 8, .inl (fun _ => 0))), (sz + 2, .inl (E.2.2.2.2.1, 6, .inr (.inr (.inr (.inr (fun _ => none)))))), (sz + 3, .inl (E.2.1, 8, .inl (fun _ => 0))), (sz + 4, .inl (E.2.1, 8, .inl (fun _ => 0))), (sz + 5, .inl (E.2.1, 48, .inl (fun _ => 0))), (sz + 6, .inl (E.2.1, 6, .inl (fun _ => 0))), (sz + 7, .inl (E.2.1, 6, .inl (fun _ => 0))), (sz + 8, .inl (E.2.1, 8, .inl (fun _ => 0))), (sz + 9, .inl (E.2.1, 8, .inl (fun _ => 0)))]) 10 114 := by
  refine zent_ct (cc := cX4_init) (nL := 1) (by decide) rfl (Nat.le_of_ble_eq_true rfl) ?_
  intro p e s m args below meth c Q A hx hb hml hown hts hA hK hP hD hS hE hO hsz0 hin ls hl hend
  have hown : s.vm.findClass RX4 = some m.cls := hown
  have hin : meth.name = "<init>" := hin
  have hl : lv_has ls 1 [(0, .ref h0)] := hl
  have hsz : s.heap.size = sz := hsz0
  rw [zQ_0 he] at hP hD
  refine lv_aload_n hx hb dX4_init_0 rfl (lv_at hl 0 rfl) ?_
  refine W.objInit hx hb hown (zh hts k0_95) (zh hts k0_27) (zh hts k0_28) rfl (by rw [hml]; exact hl.1) rfl dX4_init_1 (Nat.le_of_ble_eq_true rfl) (Nat.le_of_ble_eq_true rfl) ?_
  refine W.eq (g2 := F0 m 4 ls []) rfl ?_
  refine lv_aload_n hx hb dX4_init_4 rfl (lv_at hl 0 rfl) ?_
  refine lv_bipush (v := 8) hx hb dX4_init_5 (by decide) ?_
  refine znewa (atype := .int) (a0 := (8, .inl (fun _ => 0))) (N' := 8) (b := sz) hx hb (zh hts k0_48) (hK.2 1 _ rfl).2 hP hD hS hA (fun _ => rfl) (by decide) (by decide) (Nat.le_of_ble_eq_true rfl) (Nat.le_of_ble_eq_true rfl) (Nat.le_of_ble_eq_true rfl) hsz dX4_init_7 (fun H hsz hP hD hS => ?_)
  rw [zQ_push] at hP hD
  have hP : va_P D vwCl (zQ ws q0 (h0, .inr (3, [.int 0, .int 0, .int 0, .int 0, .int 0, .int 0, .int 0, .int 0, .int 0, .null, .null, .null, .null, .null, .null, .null, .null, .null, .null])) [(sz, .inl (E.2.1, 8, .inl (fun _ => 0)))]) H := hP
  have hD : va_D A (zQ ws q0 (h0, .inr (3, [.int 0, .int 0, .int 0, .int 0, .int 0, .int 0, .int 0, .int 0, .int 0, .null, .null, .null, .null, .null, .null, .null, .null, .null, .null])) [(sz, .inl (E.2.1, 8, .inl (fun _ => 0)))]) := hD
  have hsz : H.size = sz + 1 := hsz
  refine va_putF (D := D) (ci := 3) (v := .ref sz) (ty := .array .int) (C := RX4) (T := TX4) (N := 19) hx hb hts (zi iX4) tyX4 tyX4_ok nmX4 hown hK hP hD hS q0 (zQ_get he _ _) rfl 9 (by decide) (zh hts k0_128) (fun _ h9 => h9) rfl hin rfl (by decide +kernel) rfl rfl (Nat.le_of_ble_eq_true rfl) dX4_init_9 (fun H locs hP hD hS => ?_)
  rw [zQ_set he] at hP hD
  have hP : va_P D vwCl (zQ ws q0 (h0, .inr (3, [.int 0, .int 0, .int 0, .int 0, .int 0, .int 0, .int 0, .int 0, .int 0, .ref sz, .null, .null, .null, .null, .null, .null, .null, .null, .null])) [(sz, .inl (E.2.1, 8, .inl (fun _ => 0)))]) H := hP
  have hD : va_D A (zQ ws q0 (h0, .inr (3, [.int 0, .int 0, .int 0, .int 0, .int 0, .int 0, .int 0, .int 0, .int 0, .ref sz, .null, .null, .null, .null, .null, .null, .null, .null, .null])) [(sz, .inl (E.2.1, 8, .inl (fun _ => 0)))]) := hD
  refine zsz (fun hz9 => ?_)
  have hz8 : sz < H.size := (hP (ws.length + 0) _ (zQ_getN rfl)).lt
  rw [hsz0] at hz9
  have hsz : H.size = sz + 1 := Nat.le_antisymm hz9 hz8
  refine lv_aload_n hx hb dX4_init_12 rfl (lv_at hl 0 rfl) ?_
  refine lv_bipush (v := 8) hx hb dX4_init_13 (by decide) ?_
  refine znewa (atype := .int) (a0 := (8, .inl (fun _ => 0))) (N' := 8) (b := sz + 1) hx hb (zh hts k0_48) (hK.2 1 _ rfl).2 hP hD hS hA (fun _ => rfl) (by decide) (by decide) (Nat.le_of_ble_eq_true rfl) (Nat.le_of_ble_eq_true rfl) (Nat.le_of_ble_eq_true rfl) hsz dX4_init_15 (fun H hsz hP hD hS => ?_)
  rw [zQ_push] at hP hD
  have hP : va_P D vwCl (zQ ws q0 (h0, .inr (3, [.int 0, .int 0, .int 0, .int 0, .int 0, .int 0, .int 0, .int 0, .int 0, .ref sz, .null, .null, .null, .null, .null, .null, .null, .null, .null])) [(sz, .inl (E.2.1, 8, .inl (fun _ => 0))), (sz + 1, .inl (E.2.1, 8, .inl (fun _ => 0)))]) H := hP
  have hD : va_D A (zQ ws q0 (h0, .inr (3, [.int 0, .int 0, .int 0, .int 0, .int 0, .int 0, .int 0, .int 0, .int 0, .ref sz, .null, .null, .null, .null, .null, .null, .null, .null, .null])) [(sz, .inl (E.2.1, 8, .inl (fun _ => 0))), (sz + 1, .inl (E.2.1, 8, .inl (fun _ => 0)))]) := hD
  have hsz : H.size = sz + 2 := hsz
  refine va_putF (D := D) (ci := 3) (v := .ref (sz + 1)) (ty := .array .int) (C := RX4) (T := TX4) (N := 19) hx hb hts (zi iX4) tyX4 tyX4_ok nmX4 hown hK hP hD hS q0 (zQ_get he _ _) rfl 10 (by decide) (zh hts k0_129) (fun _ h9 => h9) rfl hin rfl (by decide +kernel) rfl rfl (Nat.le_of_ble_eq_true rfl) dX4_init_17 (fun H locs hP hD hS => ?_)
  rw [zQ_set he] at hP hD
  have hP : va_P D vwCl (zQ ws q0 (h0, .inr (3, [.int 0, .int 0, .int 0, .int 0, .int 0, .int 0, .int 0, .int 0, .int 0, .ref sz, .ref (sz + 1), .null, .null, .null, .null, .null, .null, .null, .null])) [(sz, .inl (E.2.1, 8, .inl (fun _ => 0))), (sz + 1, .inl (E.2.1, 8, .inl (fun _ => 0)))]) H := hP
  have hD : va_D A (zQ ws q0 (h0, .inr (3, [.int 0, .int 0, .int 0, .int 0, .int 0, .int 0, .int 0, .int 0, .int 0, .ref sz, .ref (sz + 1), .null, .null, .null, .null, .null, .null, .null, .null])) [(sz, .inl (E.2.1, 8, .inl (fun _ => 0))), (sz + 1, .inl (E.2.1, 8, .inl (fun _ => 0)))]) := hD
  refine zsz (fun hz9 => ?_)
  have hz8 : sz + 1 < H.size := (hP (ws.length + 1) _ (zQ_getN rfl)).lt
  rw [hsz0] at hz9
  have hsz : H.size = sz + 2 := Nat.le_antisymm hz9 hz8
  refine lv_aload_n hx hb dX4_init_20 rfl (lv_at hl 0 rfl) ?_
  refine lv_bipush (v := 6) hx hb dX4_init_21 (by decide) ?_
  refine znewq (C := RX3) (N' := 6) (b := sz + 2) hx hb hown (zh hts k0_96) hO (zfco (hK.2 3 _ rfl).2) hP hD hS hA (by decide) (by decide) (Nat.le_of_ble_eq_true rfl) (Nat.le_of_ble_eq_true rfl) (Nat.le_of_ble_eq_true rfl) hsz dX4_init_23 (fun H hsz hP hD hS => ?_)
  rw [zQ_push] at hP hD
  have hP : va_P D vwCl (zQ ws q0 (h0, .inr (3, [.int 0, .int 0, .int 0, .int 0, .int 0, .int 0, .int 0, .int 0, .int 0, .ref sz, .ref (sz + 1), .null, .null, .null, .null, .null, .null, .null, .null])) [(sz, .inl (E.2.1, 8, .inl (fun _ => 0))), (sz + 1, .inl (E.2.1, 8, .inl (fun _ => 0))), (sz + 2, .inl (E.2.2.2.2.1, 6, .inr (.inr (.inr (.inr (fun _ => none))))))]) H := hP
  have hD : va_D A (zQ ws q0 (h0, .inr (3, [.int 0, .int 0, .int 0, .int 0, .int 0, .int 0, .int 0, .int 0, .int 0, .ref sz, .ref (sz + 1), .null, .null, .null, .null, .null, .null, .null, .null])) [(sz, .inl (E.2.1, 8, .inl (fun _ => 0))), (sz + 1, .inl (E.2.1, 8, .inl (fun _ => 0))), (sz + 2, .inl (E.2.2.2.2.1, 6, .inr (.inr (.inr (.inr (fun _ => none))))))]) := hD
  have hsz : H.size = sz + 3 := hsz
  refine va_putF (D := D) (ci := 3) (v := .ref (sz + 2)) (ty := .array (.object "OldNews$Keeper")) (C := RX4) (T := TX4) (N := 19) hx hb hts (zi iX4) tyX4 tyX4_ok nmX4 hown hK hP hD hS q0 (zQ_get he _ _) rfl 11 (by decide) (zh hts k0_130) (fun _ h9 => h9) rfl hin rfl (by decide +kernel) rfl rfl (Nat.le_of_ble_eq_true rfl) dX4_init_26 (fun H locs hP hD hS => ?_)
  rw [zQ_set he] at hP hD
  have hP : va_P D vwCl (zQ ws q0 (h0, .inr (3, [.int 0, .int 0, .int 0, .int 0, .int 0, .int 0, .int 0, .int 0, .int 0, .ref sz, .ref (sz + 1), .ref (sz + 2), .null, .null, .null, .null, .null, .null, .null])) [(sz, .inl (E.2.1, 8, .inl (fun _ => 0))), (sz + 1, .inl (E.2.1, 8, .inl (fun _ => 0))), (sz + 2, .inl (E.2.2.2.2.1, 6, .inr (.inr (.inr (.inr (fun _ => none))))))]) H := hP
  have hD : va_D A (zQ ws q0 (h0, .inr (3, [.int 0, .int 0, .int 0, .int 0, .int 0, .int 0, .int 0, .int 0, .int 0, .ref sz, .ref (sz + 1), .ref (sz + 2), .null, .null, .null, .null, .null, .null, .null])) [(sz, .inl (E.2.1, 8, .inl (fun _ => 0))), (sz + 1, .inl (E.2.1, 8, .inl (fun _ => 0))), (sz + 2, .inl (E.2.2.2.2.1, 6, .inr (.inr (.inr (.inr (fun _ => none))))))]) := hD
  refine zsz (fun hz9 => ?_)
  have hz8 : sz + 2 < H.size := (hP (ws.length + 2) _ (zQ_getN rfl)).lt
  rw [hsz0] at hz9
  have hsz : H.size = sz + 3 := Nat.le_antisymm hz9 hz8
  refine lv_aload_n hx hb dX4_init_29 rfl (lv_at hl 0 rfl) ?_
  refine lv_bipush (v := 8) hx hb dX4_init_30 (by decide) ?_
  refine znewa (atype := .int) (a0 := (8, .inl (fun _ => 0))) (N' := 8) (b := sz + 3) hx hb (zh hts k0_48) (hK.2 1 _ rfl).2 hP hD hS hA (fun _ => rfl) (by decide) (by decide) (Nat.le_of_ble_eq_true rfl) (Nat.le_of_ble_eq_true rfl) (Nat.le_of_ble_eq_true rfl) hsz dX4_init_32 (fun H hsz hP hD hS => ?_)
  rw [zQ_push] at hP hD
  have hP : va_P D vwCl (zQ ws q0 (h0, .inr (3, [.int 0, .int 0, .int 0, .int 0, .int 0, .int 0, .int 0, .int 0, .int 0, .ref sz, .ref (sz + 1), .ref (sz + 2), .null, .null, .null, .null, .null, .null, .null])) [(sz, .inl (E.2.1, 8, .inl (fun _ => 0))), (sz + 1, .inl (E.2.1, 8, .inl (fun _ => 0))), (sz + 2, .inl (E.2.2.2.2.1, 6, .inr (.inr (.inr (.inr (fun _ => none)))))), (sz + 3, .inl (E.2.1, 8, .inl (fun _ => 0)))]) H := hP
  have hD : va_D A (zQ ws q0 (h0, .inr (3, [.int 0, .int 0, .int 0, .int 0, .int 0, .int 0, .int 0, .int 0, .int 0, .ref sz, .ref (sz + 1), .ref (sz + 2), .null, .null, .null, .null, .null, .null, .null])) [(sz, .inl (E.2.1, 8, .inl (fun _ => 0))), (sz + 1, .inl (E.2.1, 8, .inl (fun _ => 0))), (sz + 2, .inl (E.2.2.2.2.1, 6, .inr (.inr (.inr (.inr (fun _ => none)))))), (sz + 3, .inl (E.2.1, 8, .inl (fun _ => 0)))]) := hD
  have hsz : H.size = sz + 4 := hsz
  refine va_putF (D := D) (ci := 3) (v := .ref (sz + 3)) (ty := .array .int) (C := RX4) (T := TX4) (N := 19) hx hb hts (zi iX4) tyX4 tyX4_ok nmX4 hown hK hP hD hS q0 (zQ_get he _ _) rfl 12 (by decide) (zh hts k0_131) (fun _ h9 => h9) rfl hin rfl (by decide +kernel) rfl rfl (Nat.le_of_ble_eq_true rfl) dX4_init_34 (fun H locs hP hD hS => ?_)
  rw [zQ_set he] at hP hD
  have hP : va_P D vwCl (zQ ws q0 (h0, .inr (3, [.int 0, .int 0, .int 0, .int 0, .int 0, .int 0, .int 0, .int 0, .int 0, .ref sz, .ref (sz + 1), .ref (sz + 2), .ref (sz + 3), .null, .null, .null, .null, .null, .null])) [(sz, .inl (E.2.1, 8, .inl (fun _ => 0))), (sz + 1, .inl (E.2.1, 8, .inl (fun _ => 0))), (sz + 2, .inl (E.2.2.2.2.1, 6, .inr (.inr (.inr (.inr (fun _ => none)))))), (sz + 3, .inl (E.2.1, 8, .inl (fun _ => 0)))]) H := hP
  have hD : va_D A (zQ ws q0 (h0, .inr (3, [.int 0, .int 0, .int 0, .int 0, .int 0, .int 0, .int 0, .int 0, .int 0, .ref sz, .ref (sz + 1), .ref (sz + 2), .ref (sz + 3), .null, .null, .null, .null, .null, .null])) [(sz, .inl (E.2.1, 8, .inl (fun _ => 0))), (sz + 1, .inl (E.2.1, 8, .inl (fun _ => 0))), (sz + 2, .inl (E.2.2.2.2.1, 6, .inr (.inr (.inr (.inr (fun _ => none)))))), (sz + 3, .inl (E.2.1, 8, .inl (fun _ => 0)))]) := hD
  refine zsz (fun hz9 => ?_)
  have hz8 : sz + 3 < H.size := (hP (ws.length + 3) _ (zQ_getN rfl)).lt
  rw [hsz0] at hz9
  have hsz : H.size = sz + 4 := Nat.le_antisymm hz9 hz8
  refine lv_aload_n hx hb dX4_init_37 rfl (lv_at hl 0 rfl) ?_
  refine lv_bipush (v := 8) hx hb dX4_init_38 (by decide) ?_
  refine znewa (atype := .int) (a0 := (8, .inl (fun _ => 0))) (N' := 8) (b := sz + 4) hx hb (zh hts k0_48) (hK.2 1 _ rfl).2 hP hD hS hA (fun _ => rfl) (by decide) (by decide) (Nat.le_of_ble_eq_true rfl) (Nat.le_of_ble_eq_true rfl) (Nat.le_of_ble_eq_true rfl) hsz dX4_init_40 (fun H hsz hP hD hS => ?_)
  rw [zQ_push] at hP hD
  have hP : va_P D vwCl (zQ ws q0 (h0, .inr (3, [.int 0, .int 0, .int 0, .int 0, .int 0, .int 0, .int 0, .int 0, .int 0, .ref sz, .ref (sz + 1), .ref (sz + 2), .ref (sz + 3), .null, .null, .null, .null, .null, .null])) [(sz, .inl (E.2.1, 8, .inl (fun _ => 0))), (sz + 1, .inl (E.2.1, 8, .inl (fun _ => 0))), (sz + 2, .inl (E.2.2.2.2.1, 6, .inr (.inr (.inr (.inr (fun _ => none)))))), (sz + 3, .inl (E.2.1, 8, .inl (fun _ => 0))), (sz + 4, .inl (E.2.1, 8, .inl (fun _ => 0)))]) H := hP
  have hD : va_D A (zQ ws q0 (h0, .inr (3, [.int 0, .int 0, .int 0, .int 0, .int 0, .int 0, .int 0, .int 0, .int 0, .ref sz, .ref (sz + 1), .ref (sz + 2), .ref (sz + 3), .null, .null, .null, .null, .null, .null])) [(sz, .inl (E.2.1, 8, .inl (fun _ => 0))), (sz + 1, .inl (E.2.1, 8, .inl (fun _ => 0))), (sz + 2, .inl (E.2.2.2.2.1, 6, .inr (.inr (.inr (.inr (fun _ => none)))))), (sz + 3, .inl (E.2.1, 8, .inl (fun _ => 0))), (sz + 4, .inl (E.2.1, 8, .inl (fun _ => 0)))]) := hD
  have hsz : H.size = sz + 5 := hsz
  refine va_putF (D := D) (ci := 3) (v := .ref (sz + 4)) (ty := .array .int) (C := RX4) (T := TX4) (N := 19) hx hb hts (zi iX4) tyX4 tyX4_ok nmX4 hown hK hP hD hS q0 (zQ_get he _ _) rfl 13 (by decide) (zh hts k0_132) (fun _ h9 => h9) rfl hin rfl (by decide +kernel) rfl rfl (Nat.le_of_ble_eq_true rfl) dX4_init_42 (fun H locs hP hD hS => ?_)
  rw [zQ_set he] at hP hD
  have hP : va_P D vwCl (zQ ws q0 (h0, .inr (3, [.int 0, .int 0, .int 0, .int 0, .int 0, .int 0, .int 0, .int 0, .int 0, .ref sz, .ref (sz + 1), .ref (sz + 2), .ref (sz + 3), .ref (sz + 4), .null, .null, .null, .null, .null])) [(sz, .inl (E.2.1, 8, .inl (fun _ => 0))), (sz + 1, .inl (E.2.1, 8, .inl (fun _ => 0))), (sz + 2, .inl (E.2.2.2.2.1, 6, .inr (.inr (.inr (.inr (fun _ => none)))))), (sz + 3, .inl (E.2.1, 8, .inl (fun _ => 0))), (sz + 4, .inl (E.2.1, 8, .inl (fun _ => 0)))]) H := hP
  have hD : va_D A (zQ ws q0 (h0, .inr (3, [.int 0, .int 0, .int 0, .int 0, .int 0, .int 0, .int 0, .int 0, .int 0, .ref sz, .ref (sz + 1), .ref (sz + 2), .ref (sz + 3), .ref (sz + 4), .null, .null, .null, .null, .null])) [(sz, .inl (E.2.1, 8, .inl (fun _ => 0))), (sz + 1, .inl (E.2.1, 8, .inl (fun _ => 0))), (sz + 2, .inl (E.2.2.2.2.1, 6, .inr (.inr (.inr (.inr (fun _ => none)))))), (sz + 3, .inl (E.2.1, 8, .inl (fun _ => 0))), (sz + 4, .inl (E.2.1, 8, .inl (fun _ => 0)))]) := hD
  refine zsz (fun hz9 => ?_)
  have hz8 : sz + 4 < H.size := (hP (ws.length + 4) _ (zQ_getN rfl)).lt
  rw [hsz0] at hz9
  have hsz : H.size = sz + 5 := Nat.le_antisymm hz9 hz8
  refine lv_aload_n hx hb dX4_init_45 rfl (lv_at hl 0 rfl) ?_
  refine lv_bipush (v := 48) hx hb dX4_init_46 (by decide) ?_
  refine znewa (atype := .int) (a0 := (48, .inl (fun _ => 0))) (N' := 48) (b := sz + 5) hx hb (zh hts k0_48) (hK.2 1 _ rfl).2 hP hD hS hA (fun _ => rfl) (by decide) (by decide) (Nat.le_of_ble_eq_true rfl) (Nat.le_of_ble_eq_true rfl) (Nat.le_of_ble_eq_true rfl) hsz dX4_init_48 (fun H hsz hP hD hS => ?_)
  rw [zQ_push] at hP hD
  have hP : va_P D vwCl (zQ ws q0 (h0, .inr (3, [.int 0, .int 0, .int 0, .int 0, .int 0, .int 0, .int 0, .int 0, .int 0, .ref sz, .ref (sz + 1), .ref (sz + 2), .ref (sz + 3), .ref (sz + 4), .null, .null, .null, .null, .null])) [(sz, .inl (E.2.1, 8, .inl (fun _ => 0))), (sz + 1, .inl (E.2.1, 8, .inl (fun _ => 0))), (sz + 2, .inl (E.2.2.2.2.1, 6, .inr (.inr (.inr (.inr (fun _ => none)))))), (sz + 3, .inl (E.2.1, 8, .inl (fun _ => 0))), (sz + 4, .inl (E.2.1, 8, .inl (fun _ => 0))), (sz + 5, .inl (E.2.1, 48, .inl (fun _ => 0)))]) H := hP
  have hD : va_D A (zQ ws q0 (h0, .inr (3, [.int 0, .int 0, .int 0, .int 0, .int 0, .int 0, .int 0, .int 0, .int 0, .ref sz, .ref (sz + 1), .ref (sz + 2), .ref (sz + 3), .ref (sz + 4), .null, .null, .null, .null, .null])) [(sz, .inl (E.2.1, 8, .inl (fun _ => 0))), (sz + 1, .inl (E.2.1, 8, .inl (fun _ => 0))), (sz + 2, .inl (E.2.2.2.2.1, 6, .inr (.inr (.inr (.inr (fun _ => none)))))), (sz + 3, .inl (E.2.1, 8, .inl (fun _ => 0))), (sz + 4, .inl (E.2.1, 8, .inl (fun _ => 0))), (sz + 5, .inl (E.2.1, 48, .inl (fun _ => 0)))]) := hD
  have hsz : H.size = sz + 6 := hsz
  refine va_putF (D := D) (ci := 3) (v := .ref (sz + 5)) (ty := .array .int) (C := RX4) (T := TX4) (N := 19) hx hb hts (zi iX4) tyX4 tyX4_ok nmX4 hown hK hP hD hS q0 (zQ_get he _ _) rfl 14 (by decide) (zh hts k0_133) (fun _ h9 => h9) rfl hin rfl (by decide +kernel) rfl rfl (Nat.le_of_ble_eq_true rfl) dX4_init_50 (fun H locs hP hD hS => ?_)
  rw [zQ_set he] at hP hD
  have hP : va_P D vwCl (zQ ws q0 (h0, .inr (3, [.int 0, .int 0, .int 0, .int 0, .int 0, .int 0, .int 0, .int 0, .int 0, .ref sz, .ref (sz + 1), .ref (sz + 2), .ref (sz + 3), .ref (sz + 4), .ref (sz + 5), .null, .null, .null, .null])) [(sz, .inl (E.2.1, 8, .inl (fun _ => 0))), (sz + 1, .inl (E.2.1, 8, .inl (fun _ => 0))), (sz + 2, .inl (E.2.2.2.2.1, 6, .inr (.inr (.inr (.inr (fun _ => none)))))), (sz + 3, .inl (E.2.1, 8, .inl (fun _ => 0))), (sz + 4, .inl (E.2.1, 8, .inl (fun _ => 0))), (sz + 5, .inl (E.2.1, 48, .inl (fun _ => 0)))]) H := hP
  have hD : va_D A (zQ ws q0 (h0, .inr (3, [.int 0, .int 0, .int 0, .int 0, .int 0, .int 0, .int 0, .int 0, .int 0, .ref sz, .ref (sz + 1), .ref (sz + 2), .ref (sz + 3), .ref (sz + 4), .ref (sz + 5), .null, .null, .null, .null])) [(sz, .inl (E.2.1, 8, .inl (fun _ => 0))), (sz + 1, .inl (E.2.1, 8, .inl (fun _ => 0))), (sz + 2, .inl (E.2.2.2.2.1, 6, .inr (.inr (.inr (.inr (fun _ => none)))))), (sz + 3, .inl (E.2.1, 8, .inl (fun _ => 0))), (sz + 4, .inl (E.2.1, 8, .inl (fun _ => 0))), (sz + 5, .inl (E.2.1, 48, .inl (fun _ => 0)))]) := hD
  refine zsz (fun hz9 => ?_)
  have hz8 : sz + 5 < H.size := (hP (ws.length + 5) _ (zQ_getN rfl)).lt
  rw [hsz0] at hz9
  have hsz : H.size = sz + 6 := Nat.le_antisymm hz9 hz8
  refine lv_aload_n hx hb dX4_init_53 rfl (lv_at hl 0 rfl) ?_
  refine lv_bipush (v := 6) hx hb dX4_init_54 (by decide) ?_
  refine znewa (atype := .int) (a0 := (6, .inl (fun _ => 0))) (N' := 6) (b := sz + 6) hx hb (zh hts k0_48) (hK.2 1 _ rfl).2 hP hD hS hA (fun _ => rfl) (by decide) (by decide) (Nat.le_of_ble_eq_true rfl) (Nat.le_of_ble_eq_true rfl) (Nat.le_of_ble_eq_true rfl) hsz dX4_init_56 (fun H hsz hP hD hS => ?_)
  rw [zQ_push] at hP hD
  have hP : va_P D vwCl (zQ ws q0 (h0, .inr (3, [.int 0, .int 0, .int 0, .int 0, .int 0, .int 0, .int 0, .int 0, .int 0, .ref sz, .ref (sz + 1), .ref (sz + 2), .ref (sz + 3), .ref (sz + 4), .ref (sz + 5), .null, .null, .null, .null])) [(sz, .inl (E.2.1, 8, .inl (fun _ => 0))), (sz + 1, .inl (E.2.1, 8, .inl (fun _ => 0))), (sz + 2, .inl (E.2.2.2.2.1, 6, .inr (.inr (.inr (.inr (fun _ => none)))))), (sz + 3, .inl (E.2.1, 8, .inl (fun _ => 0))), (sz + 4, .inl (E.2.1, 8, .inl (fun _ => 0))), (sz + 5, .inl (E.2.1, 48, .inl (fun _ => 0))), (sz + 6, .inl (E.2.1, 6, .inl (fun _ => 0)))]) H := hP
  have hD : va_D A (zQ ws q0 (h0, .inr (3, [.int 0, .int 0, .int 0, .int 0, .int 0, .int 0, .int 0, .int 0, .int 0, .ref sz, .ref (sz + 1), .ref (sz + 2), .ref (sz + 3), .ref (sz + 4), .ref (sz + 5), .null, .null, .null, .null])) [(sz, .inl (E.2.1, 8, .inl (fun _ => 0))), (sz + 1, .inl (E.2.1, 8, .inl (fun _ => 0))), (sz + 2, .inl (E.2.2.2.2.1, 6, .inr (.inr (.inr (.inr (fun _ => none)))))), (sz + 3, .inl (E.2.1, 8, .inl (fun _ => 0))), (sz + 4, .inl (E.2.1, 8, .inl (fun _ => 0))), (sz + 5, .inl (E.2.1, 48, .inl (fun _ => 0))), (sz + 6, .inl (E.2.1, 6, .inl (fun _ => 0)))]) := hD
  have hsz : H.size = sz + 7 := hsz
  refine va_putF (D := D) (ci := 3) (v := .ref (sz + 6)) (ty := .array .int) (C := RX4) (T := TX4) (N := 19) hx hb hts (zi iX4) tyX4 tyX4_ok nmX4 hown hK hP hD hS q0 (zQ_get he _ _) rfl 15 (by decide) (zh hts k0_134) (fun _ h9 => h9) rfl hin rfl (by decide +kernel) rfl rfl (Nat.le_of_ble_eq_true rfl) dX4_init_58 (fun H locs hP hD hS => ?_)
  rw [zQ_set he] at hP hD
  have hP : va_P D vwCl (zQ ws q0 (h0, .inr (3, [.int 0, .int 0, .int 0, .int 0, .int 0, .int 0, .int 0, .int 0, .int 0, .ref sz, .ref (sz + 1), .ref (sz + 2), .ref (sz + 3), .ref (sz + 4), .ref (sz + 5), .ref (sz + 6), .null, .null, .null])) [(sz, .inl (E.2.1, 8, .inl (fun _ => 0))), (sz + 1, .inl (E.2.1, 8, .inl (fun _ => 0))), (sz + 2, .inl (E.2.2.2.2.1, 6, .inr (.inr (.inr (.inr (fun _ => none)))))), (sz + 3, .inl (E.2.1, 8, .inl (fun _ => 0))), (sz + 4, .inl (E.2.1, 8, .inl (fun _ => 0))), (sz + 5, .inl (E.2.1, 48, .inl (fun _ => 0))), (sz + 6, .inl (E.2.1, 6, .inl (fun _ => 0)))]) H := hP
  have hD : va_D A (zQ ws q0 (h0, .inr (3, [.int 0, .int 0, .int 0, .int 0, .int 0, .int 0, .int 0, .int 0, .int 0, .ref sz, .ref (sz + 1), .ref (sz + 2), .ref (sz + 3), .ref (sz + 4), .ref (sz + 5), .ref (sz + 6), .null, .null, .null])) [(sz, .inl (E.2.1, 8, .inl (fun _ => 0))), (sz + 1, .inl (E.2.1, 8, .inl (fun _ => 0))), (sz + 2, .inl (E.2.2.2.2.1, 6, .inr (.inr (.inr (.inr (fun _ => none)))))), (sz + 3, .inl (E.2.1, 8, .inl (fun _ => 0))), (sz + 4, .inl (E.2.1, 8, .inl (fun _ => 0))), (sz + 5, .inl (E.2.1, 48, .inl (fun _ => 0))), (sz + 6, .inl (E.2.1, 6, .inl (fun _ => 0)))]) := hD
  refine zsz (fun hz9 => ?_)
  have hz8 : sz + 6 < H.size := (hP (ws.length + 6) _ (zQ_getN rfl)).lt
  rw [hsz0] at hz9
  have hsz : H.size = sz + 7 := Nat.le_antisymm hz9 hz8
  refine lv_aload_n hx hb dX4_init_61 rfl (lv_at hl 0 rfl) ?_
  refine lv_bipush (v := 6) hx hb dX4_init_62 (by decide) ?_
  refine znewa (atype := .int) (a0 := (6, .inl (fun _ => 0))) (N' := 6) (b := sz + 7) hx hb (zh hts k0_48) (hK.2 1 _ rfl).2 hP hD hS hA (fun _ => rfl) (by decide) (by decide) (Nat.le_of_ble_eq_true rfl) (Nat.le_of_ble_eq_true rfl) (Nat.le_of_ble_eq_true rfl) hsz dX4_init_64 (fun H hsz hP hD hS => ?_)
  rw [zQ_push] at hP hD
  have hP : va_P D vwCl (zQ ws q0 (h0, .inr (3, [.int 0, .int 0, .int 0, .int 0, .int 0, .int 0, .int 0, .int 0, .int 0, .ref sz, .ref (sz + 1), .ref (sz + 2), .ref (sz + 3), .ref (sz + 4), .ref (sz + 5), .ref (sz + 6), .null, .null, .null])) [(sz, .inl (E.2.1, 8, .inl (fun _ => 0))), (sz + 1, .inl (E.2.1, 8, .inl (fun _ => 0))), (sz + 2, .inl (E.2.2.2.2.1, 6, .inr (.inr (.inr (.inr (fun _ => none)))))), (sz + 3, .inl (E.2.1, 8, .inl (fun _ => 0))), (sz + 4, .inl (E.2.1, 8, .inl (fun _ => 0))), (sz + 5, .inl (E.2.1, 48, .inl (fun _ => 0))), (sz + 6, .inl (E.2.1, 6, .inl (fun _ => 0))), (sz + 7, .inl (E.2.1, 6, .inl (fun _ => 0)))]) H := hP
  have hD : va_D A (zQ ws q0 (h0, .inr (3, [.int 0, .int 0, .int 0, .int 0, .int 0, .int 0, .int 0, .int 0, .int 0, .ref sz, .ref (sz + 1), .ref (sz + 2), .ref (sz + 3), .ref (sz + 4), .ref (sz + 5), .ref (sz + 6), .null, .null, .null])) [(sz, .inl (E.2.1, 8, .inl (fun _ => 0))), (sz + 1, .inl (E.2.1, 8, .inl (fun _ => 0))), (sz + 2, .inl (E.2.2.2.2.1, 6, .inr (.inr (.inr (.inr (fun _ => none)))))), (sz + 3, .inl (E.2.1, 8, .inl (fun _ => 0))), (sz + 4, .inl (E.2.1, 8, .inl (fun _ => 0))), (sz + 5, .inl (E.2.1, 48, .inl (fun _ => 0))), (sz + 6, .inl (E.2.1, 6, .inl (fun _ => 0))), (sz + 7, .inl (E.2.1, 6, .inl (fun _ => 0)))]) := hD
  have hsz : H.size = sz + 8 := hsz
  refine va_putF (D := D) (ci := 3) (v := .ref (sz + 7)) (ty := .array .int) (C := RX4) (T := TX4) (N := 19) hx hb hts (zi iX4) tyX4 tyX4_ok nmX4 hown hK hP hD hS q0 (zQ_get he _ _) rfl 16 (by decide) (zh hts k0_135) (fun _ h9 => h9) rfl hin rfl (by decide +kernel) rfl rfl (Nat.le_of_ble_eq_true rfl) dX4_init_66 (fun H locs hP hD hS => ?_)
  rw [zQ_set he] at hP hD
  have hP : va_P D vwCl (zQ ws q0 (h0, .inr (3, [.int 0, .int 0, .int 0, .int 0, .int 0, .int 0, .int 0, .int 0, .int 0, .ref sz, .ref (sz + 1), .ref (sz + 2), .ref (sz + 3), .ref (sz + 4), .ref (sz + 5), .ref (sz + 6), .ref (sz + 7), .null, .null])) [(sz, .inl (E.2.1, 8, .inl (fun _ => 0))), (sz + 1, .inl (E.2.1, 8, .inl (fun _ => 0))), (sz + 2, .inl (E.2.2.2.2.1, 6, .inr (.inr (.inr (.inr (fun _ => none)))))), (sz + 3, .inl (E.2.1, 8, .inl (fun _ => 0))), (sz + 4, .inl (E.2.1, 8, .inl (fun _ => 0))), (sz + 5, .inl (E.2.1, 48, .inl (fun _ => 0))), (sz + 6, .inl (E.2.1, 6, .inl (fun _ => 0))), (sz + 7, .inl (E.2.1, 6, .inl (fun _ => 0)))]) H := hP
  have hD : va_D A (zQ ws q0 (h0, .inr (3, [.int 0, .int 0, .int 0, .int 0, .int 0, .int 0, .int 0, .int 0, .int 0, .ref sz, .ref (sz + 1), .ref (sz + 2), .ref (sz + 3), .ref (sz + 4), .ref (sz + 5), .ref (sz + 6), .ref (sz + 7), .null, .null])) [(sz, .inl (E.2.1, 8, .inl (fun _ => 0))), (sz + 1, .inl (E.2.1, 8, .inl (fun _ => 0))), (sz + 2, .inl (E.2.2.2.2.1, 6, .inr (.inr (.inr (.inr (fun _ => none)))))), (sz + 3, .inl (E.2.1, 8, .inl (fun _ => 0))), (sz + 4, .inl (E.2.1, 8, .inl (fun _ => 0))), (sz + 5, .inl (E.2.1, 48, .inl (fun _ => 0))), (sz + 6, .inl (E.2.1, 6, .inl (fun _ => 0))), (sz + 7, .inl (E.2.1, 6, .inl (fun _ => 0)))]) := hD
  refine zsz (fun hz9 => ?_)
  have hz8 : sz + 7 < H.size := (hP (ws.length + 7) _ (zQ_getN rfl)).lt
  rw [hsz0] at hz9
  have hsz : H.size = sz + 8 := Nat.le_antisymm hz9 hz8
  refine lv_aload_n hx hb dX4_init_69 rfl (lv_at hl 0 rfl) ?_
  refine lv_bipush (v := 8) hx hb dX4_init_70 (by decide) ?_
  refine znewa (atype := .int) (a0 := (8, .inl (fun _ => 0))) (N' := 8) (b := sz + 8) hx hb (zh hts k0_48) (hK.2 1 _ rfl).2 hP hD hS hA (fun _ => rfl) (by decide) (by decide) (Nat.le_of_ble_eq_true rfl) (Nat.le_of_ble_eq_true rfl) (Nat.le_of_ble_eq_true rfl) hsz dX4_init_72 (fun H hsz hP hD hS => ?_)
  rw [zQ_push] at hP hD
  have hP : va_P D vwCl (zQ ws q0 (h0, .inr (3, [.int 0, .int 0, .int 0, .int 0, .int 0, .int 0, .int 0, .int 0, .int 0, .ref sz, .ref (sz + 1), .ref (sz + 2), .ref (sz + 3), .ref (sz + 4), .ref (sz + 5), .ref (sz + 6), .ref (sz + 7), .null, .null])) [(sz, .inl (E.2.1, 8, .inl (fun _ => 0))), (sz + 1, .inl (E.2.1, 8, .inl (fun _ => 0))), (sz + 2, .inl (E.2.2.2.2.1, 6, .inr (.inr (.inr (.inr (fun _ => none)))))), (sz + 3, .inl (E.2.1, 8, .inl (fun _ => 0))), (sz + 4, .inl (E.2.1, 8, .inl (fun _ => 0))), (sz + 5, .inl (E.2.1, 48, .inl (fun _ => 0))), (sz + 6, .inl (E.2.1, 6, .inl (fun _ => 0))), (sz + 7, .inl (E.2.1, 6, .inl (fun _ => 0))), (sz + 8, .inl (E.2.1, 8, .inl (fun _ => 0)))]) H := hP
  have hD : va_D A (zQ ws q0 (h0, .inr (3, [.int 0, .int 0, .int 0, .int 0, .int 0, .int 0, .int 0, .int 0, .int 0, .ref sz, .ref (sz + 1), .ref (sz + 2), .ref (sz + 3), .ref (sz + 4), .ref (sz + 5), .ref (sz + 6), .ref (sz + 7), .null, .null])) [(sz, .inl (E.2.1, 8, .inl (fun _ => 0))), (sz + 1, .inl (E.2.1, 8, .inl (fun _ => 0))), (sz + 2, .inl (E.2.2.2.2.1, 6, .inr (.inr (.inr (.inr (fun _ => none)))))), (sz + 3, .inl (E.2.1, 8, .inl (fun _ => 0))), (sz + 4, .inl (E.2.1, 8, .inl (fun _ => 0))), (sz + 5, .inl (E.2.1, 48, .inl (fun _ => 0))), (sz + 6, .inl (E.2.1, 6, .inl (fun _ => 0))), (sz + 7, .inl (E.2.1, 6, .inl (fun _ => 0))), (sz + 8, .inl (E.2.1, 8, .inl (fun _ => 0)))]) := hD
  have hsz : H.size = sz + 9 := hsz
  refine va_putF (D := D) (ci := 3) (v := .ref (sz + 8)) (ty := .array .int) (C := RX4) (T := TX4) (N := 19) hx hb hts (zi iX4) tyX4 tyX4_ok nmX4 hown hK hP hD hS q0 (zQ_get he _ _) rfl 17 (by decide) (zh hts k0_136) (fun _ h9 => h9) rfl hin rfl (by decide +kernel) rfl rfl (Nat.le_of_ble_eq_true rfl) dX4_init_74 (fun H locs hP hD hS => ?_)
  rw [zQ_set he] at hP hD
  have hP : va_P D vwCl (zQ ws q0 (h0, .inr (3, [.int 0, .int 0, .int 0, .int 0, .int 0, .int 0, .int 0, .int 0, .int 0, .ref sz, .ref (sz + 1), .ref (sz + 2), .ref (sz + 3), .ref (sz + 4), .ref (sz + 5), .ref (sz + 6), .ref (sz + 7), .ref (sz + 8), .null])) [(sz, .inl (E.2.1, 8, .inl (fun _ => 0))), (sz + 1, .inl (E.2.1, 8, .inl (fun _ => 0))), (sz + 2, .inl (E.2.2.2.2.1, 6, .inr (.inr (.inr (.inr (fun _ => none)))))), (sz + 3, .inl (E.2.1, 8, .inl (fun _ => 0))), (sz + 4, .inl (E.2.1, 8, .inl (fun _ => 0))), (sz + 5, .inl (E.2.1, 48, .inl (fun _ => 0))), (sz + 6, .inl (E.2.1, 6, .inl (fun _ => 0))), (sz + 7, .inl (E.2.1, 6, .inl (fun _ => 0))), (sz + 8, .inl (E.2.1, 8, .inl (fun _ => 0)))]) H := hP
  have hD : va_D A (zQ ws q0 (h0, .inr (3, [.int 0, .int 0, .int 0, .int 0, .int 0, .int 0, .int 0, .int 0, .int 0, .ref sz, .ref (sz + 1), .ref (sz + 2), .ref (sz + 3), .ref (sz + 4), .ref (sz + 5), .ref (sz + 6), .ref (sz + 7), .ref (sz + 8), .null])) [(sz, .inl (E.2.1, 8, .inl (fun _ => 0))), (sz + 1, .inl (E.2.1, 8, .inl (fun _ => 0))), (sz + 2, .inl (E.2.2.2.2.1, 6, .inr (.inr (.inr (.inr (fun _ => none)))))), (sz + 3, .inl (E.2.1, 8, .inl (fun _ => 0))), (sz + 4, .inl (E.2.1, 8, .inl (fun _ => 0))), (sz + 5, .inl (E.2.1, 48, .inl (fun _ => 0))), (sz + 6, .inl (E.2.1, 6, .inl (fun _ => 0))), (sz + 7, .inl (E.2.1, 6, .inl (fun _ => 0))), (sz + 8, .inl (E.2.1, 8, .inl (fun _ => 0)))]) := hD
  refine zsz (fun hz9 => ?_)
  have hz8 : sz + 8 < H.size := (hP (ws.length + 8) _ (zQ_getN rfl)).lt
  rw [hsz0] at hz9
  have hsz : H.size = sz + 9 := Nat.le_antisymm hz9 hz8
  refine lv_aload_n hx hb dX4_init_77 rfl (lv_at hl 0 rfl) ?_
  refine lv_bipush (v := 8) hx hb dX4_init_78 (by decide) ?_
  refine znewa (atype := .int) (a0 := (8, .inl (fun _ => 0))) (N' := 8) (b := sz + 9) hx hb (zh hts k0_48) (hK.2 1 _ rfl).2 hP hD hS hA (fun _ => rfl) (by decide) (by decide) (Nat.le_of_ble_eq_true rfl) (Nat.le_of_ble_eq_true rfl) (Nat.le_of_ble_eq_true rfl) hsz dX4_init_80 (fun H hsz hP hD hS => ?_)
  rw [zQ_push] at hP hD
  have hP : va_P D vwCl (zQ ws q0 (h0, .inr (3, [.int 0, .int 0, .int 0, .int 0, .int 0, .int 0, .int 0, .int 0, .int 0, .ref sz, .ref (sz + 1), .ref (sz + 2), .ref (sz + 3), .ref (sz + 4), .ref (sz + 5), .ref (sz + 6), .ref (sz + 7), .ref (sz + 8), .null])) [(sz, .inl (E.2.1, 8, .inl (fun _ => 0))), (sz + 1, .inl (E.2.1, 8, .inl (fun _ => 0))), (sz + 2, .inl (E.2.2.2.2.1, 6, .inr (.inr (.inr (.inr (fun _ => none)))))), (sz + 3, .inl (E.2.1, 8, .inl (fun _ => 0))), (sz + 4, .inl (E.2.1, 8, .inl (fun _ => 0))), (sz + 5, .inl (E.2.1, 48, .inl (fun _ => 0))), (sz + 6, .inl (E.2.1, 6, .inl (fun _ => 0))), (sz + 7, .inl (E.2.1, 6, .inl (fun _ => 0))), (sz + 8, .inl (E.2.1, 8, .inl (fun _ => 0))), (sz + 9, .inl (E.2.1, 8, .inl (fun _ => 0)))]) H := hP
  have hD : va_D A (zQ ws q0 (h0, .inr (3, [.int 0, .int 0, .int 0, .int 0, .int 0, .int 0, .int 0, .int 0, .int 0, .ref sz, .ref (sz + 1), .ref (sz + 2), .ref (sz + 3), .ref (sz + 4), .ref (sz + 5), .ref (sz + 6), .ref (sz + 7), .ref (sz + 8), .null])) [(sz, .inl (E.2.1, 8, .inl (fun _ => 0))), (sz + 1, .inl (E.2.1, 8, .inl (fun _ => 0))), (sz + 2, .inl (E.2.2.2.2.1, 6, .inr (.inr (.inr (.inr (fun _ => none)))))), (sz + 3, .inl (E.2.1, 8, .inl (fun _ => 0))), (sz + 4, .inl (E.2.1, 8, .inl (fun _ => 0))), (sz + 5, .inl (E.2.1, 48, .inl (fun _ => 0))), (sz + 6, .inl (E.2.1, 6, .inl (fun _ => 0))), (sz + 7, .inl (E.2.1, 6, .inl (fun _ => 0))), (sz + 8, .inl (E.2.1, 8, .inl (fun _ => 0))), (sz + 9, .inl (E.2.1, 8, .inl (fun _ => 0)))]) := hD
  have hsz : H.size = sz + 10 := hsz
  refine va_putF (D := D) (ci := 3) (v := .ref (sz + 9)) (ty := .array .int) (C := RX4) (T := TX4) (N := 19) hx hb hts (zi iX4) tyX4 tyX4_ok nmX4 hown hK hP hD hS q0 (zQ_get he _ _) rfl 18 (by decide) (zh hts k0_137) (fun _ h9 => h9) rfl hin rfl (by decide +kernel) rfl rfl (Nat.le_of_ble_eq_true rfl) dX4_init_82 (fun H locs hP hD hS => ?_)
  rw [zQ_set he] at hP hD
  have hP : va_P D vwCl (zQ ws q0 (h0, .inr (3, [.int 0, .int 0, .int 0, .int 0, .int 0, .int 0, .int 0, .int 0, .int 0, .ref sz, .ref (sz + 1), .ref (sz + 2), .ref (sz + 3), .ref (sz + 4), .ref (sz + 5), .ref (sz + 6), .ref (sz + 7), .ref (sz + 8), .ref (sz + 9)])) [(sz, .inl (E.2.1, 8, .inl (fun _ => 0))), (sz + 1, .inl (E.2.1, 8, .inl (fun _ => 0))), (sz + 2, .inl (E.2.2.2.2.1, 6, .inr (.inr (.inr (.inr (fun _ => none)))))), (sz + 3, .inl (E.2.1, 8, .inl (fun _ => 0))), (sz + 4, .inl (E.2.1, 8, .inl (fun _ => 0))), (sz + 5, .inl (E.2.1, 48, .inl (fun _ => 0))), (sz + 6, .inl (E.2.1, 6, .inl (fun _ => 0))), (sz + 7, .inl (E.2.1, 6, .inl (fun _ => 0))), (sz + 8, .inl (E.2.1, 8, .inl (fun _ => 0))), (sz + 9, .inl (E.2.1, 8, .inl (fun _ => 0)))]) H := hP
  have hD : va_D A (zQ ws q0 (h0, .inr (3, [.int 0, .int 0, .int 0, .int 0, .int 0, .int 0, .int 0, .int 0, .int 0, .ref sz, .ref (sz + 1), .ref (sz + 2), .ref (sz + 3), .ref (sz + 4), .ref (sz + 5), .ref (sz + 6), .ref (sz + 7), .ref (sz + 8), .ref (sz + 9)])) [(sz, .inl (E.2.1, 8, .inl (fun _ => 0))), (sz + 1, .inl (E.2.1, 8, .inl (fun _ => 0))), (sz + 2, .inl (E.2.2.2.2.1, 6, .inr (.inr (.inr (.inr (fun _ => none)))))), (sz + 3, .inl (E.2.1, 8, .inl (fun _ => 0))), (sz + 4, .inl (E.2.1, 8, .inl (fun _ => 0))), (sz + 5, .inl (E.2.1, 48, .inl (fun _ => 0))), (sz + 6, .inl (E.2.1, 6, .inl (fun _ => 0))), (sz + 7, .inl (E.2.1, 6, .inl (fun _ => 0))), (sz + 8, .inl (E.2.1, 8, .inl (fun _ => 0))), (sz + 9, .inl (E.2.1, 8, .inl (fun _ => 0)))]) := hD
  refine zsz (fun hz9 => ?_)
  have hz8 : sz + 9 < H.size := (hP (ws.length + 9) _ (zQ_getN rfl)).lt
  rw [hsz0] at hz9
  have hsz : H.size = sz + 10 := Nat.le_antisymm hz9 hz8
  exact hend _ _ _ _ hP hD hS dX4_init_85
set_option maxHeartbeats 400000 in
set_option maxRecDepth 100000 in
theorem qX2_init (l : Launch) (D : va_G) (E : zE) (ws : va_W) (q0 h0 : Nat) (he : ws[q0]? = some (h0, .inr (2, [.int 0, .int 0, .int 0, .null, .null, .null, .null]))) (sz : Nat) : zCc l yX2_init zwX2_init ({ frames := 2, cells := 14, slots := 151, locals := 32 } : Room) [.ref h0] D E sz ws (zQ ws q0 (h0, .inr (2, [.int 0, .int 0, .int 0, .ref sz, .ref (sz + 11), .ref (sz + 12), .ref (sz + 13)])) [(sz, .inr (3, [.int 0, .int 0, .int 0, .int 0, .int 0, .int 0, .int 0, .int 0, .int 0, .ref (sz + 1), .ref ((sz + 2)), .ref ((sz + 3)), .ref ((sz + 4)), .ref ((sz + 5)), .ref ((sz + 6)), .ref ((sz + 7)), .ref ((sz + 8)), .ref ((sz + 9)), .ref ((sz + 10))])), ((sz + 1), .inl (E.2.1, 8, .inl (fun _ => 0))), ((sz + 2), .inl (E.2.1, 8, .inl (fun _ => 0))), ((sz + 3), .inl (E.2.2.2.2.1, 6, .inr (.inr (.inr (.inr (fun _ => none)))))), ((sz + 4), .inl (E.2.1, 8, .inl (fun _ => 0))), ((sz + 5), .inl (E.2.1, 8, .inl (fun _ => 0))), ((sz + 6), .inl (E.2.1, 48, .inl (fun _ => 0))), ((sz + 7), .inl (E.2.1, 6, .inl (fun _ => 0))), ((sz + 8), .inl (E.2.1, 6, .inl (fun _ => 0))), ((sz + 9), .inl (E.2.1, 8, .inl (fun _ => 0))), ((sz + 10), .inl (E.2.1, 8, .inl (fun _ => 0))), (sz + 11, .inl (E.2.1, 6, .inl (fun _ => 0))), (sz + 12, .inl (E.2.1, 6, .inl (fun _ => 0))), (sz + 13, .inl (E.2.1, 6, .inl (fun _ => 0)))]) 14 151 := by
  refine zent_ct (cc := cX2_init) (nL := 1) (by decide) rfl (Nat.le_of_ble_eq_true rfl) ?_
  intro p e s m args below meth c Q A hx hb hml hown hts hA hK hP hD hS hE hO hsz0 hin ls hl hend
  have hown : s.vm.findClass RX2 = some m.cls := hown
  have hin : meth.name = "<init>" := hin
  have hl : lv_has ls 1 [(0, .ref h0)] := hl
  have hsz : s.heap.size = sz := hsz0
  rw [zQ_0 he] at hP hD
  refine lv_aload_n hx hb dX2_init_0 rfl (lv_at hl 0 rfl) ?_
  refine W.objInit hx hb hown (zh hts k0_89) (zh hts k0_27) (zh hts k0_28) rfl (by rw [hml]; exact hl.1) rfl dX2_init_1 (Nat.le_of_ble_eq_true rfl) (Nat.le_of_ble_eq_true rfl) ?_
  refine W.eq (g2 := F0 m 4 ls []) rfl ?_
  refine lv_aload_n hx hb dX2_init_4 rfl (lv_at hl 0 rfl) ?_
  refine znewo (ci := 3) (fs := [.int 0, .int 0, .int 0, .int 0, .int 0, .int 0, .int 0, .int 0, .int 0, .null, .null, .null, .null, .null, .null, .null, .null, .null, .null]) (C := RX4) (T := TX4) (N := 19) (b := sz) hx hb hts (zi iX4) tyX4 tyX4_ok hown (zh hts k0_90) (zh hts k0_91) (zh hts k0_6) hK hP hD hS hA rfl (fun j hj => by rcases (show j = 0 ∨ j = 1 ∨ j = 2 ∨ j = 3 ∨ j = 4 ∨ j = 5 ∨ j = 6 ∨ j = 7 ∨ j = 8 ∨ j = 9 ∨ j = 10 ∨ j = 11 ∨ j = 12 ∨ j = 13 ∨ j = 14 ∨ j = 15 ∨ j = 16 ∨ j = 17 ∨ j = 18 by omega) with rfl | rfl | rfl | rfl | rfl | rfl | rfl | rfl | rfl | rfl | rfl | rfl | rfl | rfl | rfl | rfl | rfl | rfl | rfl <;> rfl) (Nat.le_of_ble_eq_true rfl) (Nat.le_of_ble_eq_true rfl) hsz dX2_init_5 (fun H hP hD hS => ?_)
  rw [zQ_push] at hP hD
  have hP : va_P D vwCl (zQ ws q0 (h0, .inr (2, [.int 0, .int 0, .int 0, .null, .null, .null, .null])) [(sz, .inr (3, [.int 0, .int 0, .int 0, .int 0, .int 0, .int 0, .int 0, .int 0, .int 0, .null, .null, .null, .null, .null, .null, .null, .null, .null, .null]))]) H := hP
  have hD : va_D A (zQ ws q0 (h0, .inr (2, [.int 0, .int 0, .int 0, .null, .null, .null, .null])) [(sz, .inr (3, [.int 0, .int 0, .int 0, .int 0, .int 0, .int 0, .int 0, .int 0, .int 0, .null, .null, .null, .null, .null, .null, .null, .null, .null, .null]))]) := hD
  refine zsz (fun hz9 => ?_)
  have hz8 : sz < H.size := (hP (ws.length + 0) _ (zQ_getN rfl)).lt
  rw [hsz0] at hz9
  have hsz : H.size = sz + 1 := Nat.le_antisymm hz9 hz8
  refine lv_dup hx hb dX2_init_8 rfl ?_
  refine zcall_c (va_runIN (As := []) (rest := [.ref sz, .ref h0]) ⟨hx, hb, hml, hown, hts⟩ (qX4_init l D E (zQ ws q0 (h0, .inr (2, [.int 0, .int 0, .int 0, .null, .null, .null, .null])) [(sz, .inr (3, [.int 0, .int 0, .int 0, .int 0, .int 0, .int 0, .int 0, .int 0, .int 0, .null, .null, .null, .null, .null, .null, .null, .null, .null, .null]))]) (ws.length + 0) sz (zQ_getN rfl) (sz + 1)) ⟨va_cnB 0 hts (zgC k0_94) rfl rfl rfl (hE.2.2.2.2.2.2.2.2.2.2.2 (RX2, 11, yX4_init) (List.mem_of_getElem? (i := 5) rfl)) (zh hts k0_6) (by decide +kernel) ⟨Nat.le_of_ble_eq_true rfl, Nat.le_of_ble_eq_true rfl⟩, rfl, (zh hts k0_93)⟩ (zpc hO hE hS hA hK hP hD hsz) rfl rfl hl.1 rfl (lv_room (Nat.le_of_ble_eq_true rfl)) dX2_init_9 ⟨Nat.le_of_ble_eq_true rfl, Nat.le_of_ble_eq_true rfl⟩) hsz hD hS hA (fun H locs hP hD hS => ?_)
  rw [zQ_call] at hP hD
  have hP : va_P D vwCl (zQ ws q0 (h0, .inr (2, [.int 0, .int 0, .int 0, .null, .null, .null, .null])) [(sz, .inr (3, [.int 0, .int 0, .int 0, .int 0, .int 0, .int 0, .int 0, .int 0, .int 0, .ref (sz + 1), .ref ((sz + 2)), .ref ((sz + 3)), .ref ((sz + 4)), .ref ((sz + 5)), .ref ((sz + 6)), .ref ((sz + 7)), .ref ((sz + 8)), .ref ((sz + 9)), .ref ((sz + 10))])), ((sz + 1), .inl (E.2.1, 8, .inl (fun _ => 0))), ((sz + 2), .inl (E.2.1, 8, .inl (fun _ => 0))), ((sz + 3), .inl (E.2.2.2.2.1, 6, .inr (.inr (.inr (.inr (fun _ => none)))))), ((sz + 4), .inl (E.2.1, 8, .inl (fun _ => 0))), ((sz + 5), .inl (E.2.1, 8, .inl (fun _ => 0))), ((sz + 6), .inl (E.2.1, 48, .inl (fun _ => 0))), ((sz + 7), .inl (E.2.1, 6, .inl (fun _ => 0))), ((sz + 8), .inl (E.2.1, 6, .inl (fun _ => 0))), ((sz + 9), .inl (E.2.1, 8, .inl (fun _ => 0))), ((sz + 10), .inl (E.2.1, 8, .inl (fun _ => 0)))]) H := hP
  have hD : va_D A (zQ ws q0 (h0, .inr (2, [.int 0, .int 0, .int 0, .null, .null, .null, .null])) [(sz, .inr (3, [.int 0, .int 0, .int 0, .int 0, .int 0, .int 0, .int 0, .int 0, .int 0, .ref (sz + 1), .ref ((sz + 2)), .ref ((sz + 3)), .ref ((sz + 4)), .ref ((sz + 5)), .ref ((sz + 6)), .ref ((sz + 7)), .ref ((sz + 8)), .ref ((sz + 9)), .ref ((sz + 10))])), ((sz + 1), .inl (E.2.1, 8, .inl (fun _ => 0))), ((sz + 2), .inl (E.2.1, 8, .inl (fun _ => 0))), ((sz + 3), .inl (E.2.2.2.2.1, 6, .inr (.inr (.inr (.inr (fun _ => none)))))), ((sz + 4), .inl (E.2.1, 8, .inl (fun _ => 0))), ((sz + 5), .inl (E.2.1, 8, .inl (fun _ => 0))), ((sz + 6), .inl (E.2.1, 48, .inl (fun _ => 0))), ((sz + 7), .inl (E.2.1, 6, .inl (fun _ => 0))), ((sz + 8), .inl (E.2.1, 6, .inl (fun _ => 0))), ((sz + 9), .inl (E.2.1, 8, .inl (fun _ => 0))), ((sz + 10), .inl (E.2.1, 8, .inl (fun _ => 0)))]) := hD
  refine zsz (fun hz9 => ?_)
  have hz8 : (sz + 10) < H.size := (hP (ws.length + 10) _ (zQ_getN rfl)).lt
  rw [hsz0] at hz9
  have hsz : H.size = sz + 11 := Nat.le_antisymm hz9 hz8
  refine va_putF (D := D) (ci := 2) (v := .ref sz) (ty := .object "OldNews$Land") (C := RX2) (T := TX2) (N := 7) hx hb hts (zi iX2) tyX2 tyX2_ok nmX2 hown hK hP hD hS q0 (zQ_get he _ _) rfl 3 (by decide) (zh hts k0_181) (fun _ h9 => h9) rfl hin rfl (by decide +kernel) rfl rfl (Nat.le_of_ble_eq_true rfl) dX2_init_12 (fun H locs hP hD hS => ?_)
  rw [zQ_set he] at hP hD
  have hP : va_P D vwCl (zQ ws q0 (h0, .inr (2, [.int 0, .int 0, .int 0, .ref sz, .null, .null, .null])) [(sz, .inr (3, [.int 0, .int 0, .int 0, .int 0, .int 0, .int 0, .int 0, .int 0, .int 0, .ref (sz + 1), .ref ((sz + 2)), .ref ((sz + 3)), .ref ((sz + 4)), .ref ((sz + 5)), .ref ((sz + 6)), .ref ((sz + 7)), .ref ((sz + 8)), .ref ((sz + 9)), .ref ((sz + 10))])), ((sz + 1), .inl (E.2.1, 8, .inl (fun _ => 0))), ((sz + 2), .inl (E.2.1, 8, .inl (fun _ => 0))), ((sz + 3), .inl (E.2.2.2.2.1, 6, .inr (.inr (.inr (.inr (fun _ => none)))))), ((sz + 4), .inl (E.2.1, 8, .inl (fun _ => 0))), ((sz + 5), .inl (E.2.1, 8, .inl (fun _ => 0))), ((sz + 6), .inl (E.2.1, 48, .inl (fun _ => 0))), ((sz + 7), .inl (E.2.1, 6, .inl (fun _ => 0))), ((sz + 8), .inl (E.2.1, 6, .inl (fun _ => 0))), ((sz + 9), .inl (E.2.1, 8, .inl (fun _ => 0))), ((sz + 10), .inl (E.2.1, 8, .inl (fun _ => 0)))]) H := hP
  have hD : va_D A (zQ ws q0 (h0, .inr (2, [.int 0, .int 0, .int 0, .ref sz, .null, .null, .null])) [(sz, .inr (3, [.int 0, .int 0, .int 0, .int 0, .int 0, .int 0, .int 0, .int 0, .int 0, .ref (sz + 1), .ref ((sz + 2)), .ref ((sz + 3)), .ref ((sz + 4)), .ref ((sz + 5)), .ref ((sz + 6)), .ref ((sz + 7)), .ref ((sz + 8)), .ref ((sz + 9)), .ref ((sz + 10))])), ((sz + 1), .inl (E.2.1, 8, .inl (fun _ => 0))), ((sz + 2), .inl (E.2.1, 8, .inl (fun _ => 0))), ((sz + 3), .inl (E.2.2.2.2.1, 6, .inr (.inr (.inr (.inr (fun _ => none)))))), ((sz + 4), .inl (E.2.1, 8, .inl (fun _ => 0))), ((sz + 5), .inl (E.2.1, 8, .inl (fun _ => 0))), ((sz + 6), .inl (E.2.1, 48, .inl (fun _ => 0))), ((sz + 7), .inl (E.2.1, 6, .inl (fun _ => 0))), ((sz + 8), .inl (E.2.1, 6, .inl (fun _ => 0))), ((sz + 9), .inl (E.2.1, 8, .inl (fun _ => 0))), ((sz + 10), .inl (E.2.1, 8, .inl (fun _ => 0)))]) := hD
  refine zsz (fun hz9 => ?_)
  have hz8 : (sz + 10) < H.size := (hP (ws.length + 10) _ (zQ_getN rfl)).lt
  rw [hsz0] at hz9
  have hsz : H.size = sz + 11 := Nat.le_antisymm hz9 hz8
  refine lv_aload_n hx hb dX2_init_15 rfl (lv_at hl 0 rfl) ?_
  refine lv_bipush (v := 6) hx hb dX2_init_16 (by decide) ?_
  refine znewa (atype := .int) (a0 := (6, .inl (fun _ => 0))) (N' := 6) (b := sz + 11) hx hb (zh hts k0_48) (hK.2 1 _ rfl).2 hP hD hS hA (fun _ => rfl) (by decide) (by decide) (Nat.le_of_ble_eq_true rfl) (Nat.le_of_ble_eq_true rfl) (Nat.le_of_ble_eq_true rfl) hsz dX2_init_18 (fun H hsz hP hD hS => ?_)
  rw [zQ_push] at hP hD
  have hP : va_P D vwCl (zQ ws q0 (h0, .inr (2, [.int 0, .int 0, .int 0, .ref sz, .null, .null, .null])) [(sz, .inr (3, [.int 0, .int 0, .int 0, .int 0, .int 0, .int 0, .int 0, .int 0, .int 0, .ref (sz + 1), .ref ((sz + 2)), .ref ((sz + 3)), .ref ((sz + 4)), .ref ((sz + 5)), .ref ((sz + 6)), .ref ((sz + 7)), .ref ((sz + 8)), .ref ((sz + 9)), .ref ((sz + 10))])), ((sz + 1), .inl (E.2.1, 8, .inl (fun _ => 0))), ((sz + 2), .inl (E.2.1, 8, .inl (fun _ => 0))), ((sz + 3), .inl (E.2.2.2.2.1, 6, .inr (.inr (.inr (.inr (fun _ => none)))))), ((sz + 4), .inl (E.2.1, 8, .inl (fun _ => 0))), ((sz + 5), .inl (E.2.1, 8, .inl (fun _ => 0))), ((sz + 6), .inl (E.2.1, 48, .inl (fun _ => 0))), ((sz + 7), .inl (E.2.1, 6, .inl (fun _ => 0))), ((sz + 8), .inl (E.2.1, 6, .inl (fun _ => 0))), ((sz + 9), .inl (E.2.1, 8, .inl (fun _ => 0))), ((sz + 10), .inl (E.2.1, 8, .inl (fun _ => 0))), (sz + 11, .inl (E.2.1, 6, .inl (fun _ => 0)))]) H := hP
  have hD : va_D A (zQ ws q0 (h0, .inr (2, [.int 0, .int 0, .int 0, .ref sz, .null, .null, .null])) [(sz, .inr (3, [.int 0, .int 0, .int 0, .int 0, .int 0, .int 0, .int 0, .int 0, .int 0, .ref (sz + 1), .ref ((sz + 2)), .ref ((sz + 3)), .ref ((sz + 4)), .ref ((sz + 5)), .ref ((sz + 6)), .ref ((sz + 7)), .ref ((sz + 8)), .ref ((sz + 9)), .ref ((sz + 10))])), ((sz + 1), .inl (E.2.1, 8, .inl (fun _ => 0))), ((sz + 2), .inl (E.2.1, 8, .inl (fun _ => 0))), ((sz + 3), .inl (E.2.2.2.2.1, 6, .inr (.inr (.inr (.inr (fun _ => none)))))), ((sz + 4), .inl (E.2.1, 8, .inl (fun _ => 0))), ((sz + 5), .inl (E.2.1, 8, .inl (fun _ => 0))), ((sz + 6), .inl (E.2.1, 48, .inl (fun _ => 0))), ((sz + 7), .inl (E.2.1, 6, .inl (fun _ => 0))), ((sz + 8), .inl (E.2.1, 6, .inl (fun _ => 0))), ((sz + 9), .inl (E.2.1, 8, .inl (fun _ => 0))), ((sz + 10), .inl (E.2.1, 8, .inl (fun _ => 0))), (sz + 11, .inl (E.2.1, 6, .inl (fun _ => 0)))]) := hD
  have hsz : H.size = sz + 12 := hsz
  refine va_putF (D := D) (ci := 2) (v := .ref (sz + 11)) (ty := .array .int) (C := RX2) (T := TX2) (N := 7) hx hb hts (zi iX2) tyX2 tyX2_ok nmX2 hown hK hP hD hS q0 (zQ_get he _ _) rfl 4 (by decide) (zh hts k0_182) (fun _ h9 => h9) rfl hin rfl (by decide +kernel) rfl rfl (Nat.le_of_ble_eq_true rfl) dX2_init_20 (fun H locs hP hD hS => ?_)
  rw [zQ_set he] at hP hD
  have hP : va_P D vwCl (zQ ws q0 (h0, .inr (2, [.int 0, .int 0, .int 0, .ref sz, .ref (sz + 11), .null, .null])) [(sz, .inr (3, [.int 0, .int 0, .int 0, .int 0, .int 0, .int 0, .int 0, .int 0, .int 0, .ref (sz + 1), .ref ((sz + 2)), .ref ((sz + 3)), .ref ((sz + 4)), .ref ((sz + 5)), .ref ((sz + 6)), .ref ((sz + 7)), .ref ((sz + 8)), .ref ((sz + 9)), .ref ((sz + 10))])), ((sz + 1), .inl (E.2.1, 8, .inl (fun _ => 0))), ((sz + 2), .inl (E.2.1, 8, .inl (fun _ => 0))), ((sz + 3), .inl (E.2.2.2.2.1, 6, .inr (.inr (.inr (.inr (fun _ => none)))))), ((sz + 4), .inl (E.2.1, 8, .inl (fun _ => 0))), ((sz + 5), .inl (E.2.1, 8, .inl (fun _ => 0))), ((sz + 6), .inl (E.2.1, 48, .inl (fun _ => 0))), ((sz + 7), .inl (E.2.1, 6, .inl (fun _ => 0))), ((sz + 8), .inl (E.2.1, 6, .inl (fun _ => 0))), ((sz + 9), .inl (E.2.1, 8, .inl (fun _ => 0))), ((sz + 10), .inl (E.2.1, 8, .inl (fun _ => 0))), (sz + 11, .inl (E.2.1, 6, .inl (fun _ => 0)))]) H := hP
  have hD : va_D A (zQ ws q0 (h0, .inr (2, [.int 0, .int 0, .int 0, .ref sz, .ref (sz + 11), .null, .null])) [(sz, .inr (3, [.int 0, .int 0, .int 0, .int 0, .int 0, .int 0, .int 0, .int 0, .int 0, .ref (sz + 1), .ref ((sz + 2)), .ref ((sz + 3)), .ref ((sz + 4)), .ref ((sz + 5)), .ref ((sz + 6)), .ref ((sz + 7)), .ref ((sz + 8)), .ref ((sz + 9)), .ref ((sz + 10))])), ((sz + 1), .inl (E.2.1, 8, .inl (fun _ => 0))), ((sz + 2), .inl (E.2.1, 8, .inl (fun _ => 0))), ((sz + 3), .inl (E.2.2.2.2.1, 6, .inr (.inr (.inr (.inr (fun _ => none)))))), ((sz + 4), .inl (E.2.1, 8, .inl (fun _ => 0))), ((sz + 5), .inl (E.2.1, 8, .inl (fun _ => 0))), ((sz + 6), .inl (E.2.1, 48, .inl (fun _ => 0))), ((sz + 7), .inl (E.2.1, 6, .inl (fun _ => 0))), ((sz + 8), .inl (E.2.1, 6, .inl (fun _ => 0))), ((sz + 9), .inl (E.2.1, 8, .inl (fun _ => 0))), ((sz + 10), .inl (E.2.1, 8, .inl (fun _ => 0))), (sz + 11, .inl (E.2.1, 6, .inl (fun _ => 0)))]) := hD
  refine zsz (fun hz9 => ?_)
  have hz8 : sz + 11 < H.size := (hP (ws.length + 11) _ (zQ_getN rfl)).lt
  rw [hsz0] at hz9
  have hsz : H.size = sz + 12 := Nat.le_antisymm hz9 hz8
  refine lv_aload_n hx hb dX2_init_23 rfl (lv_at hl 0 rfl) ?_
  refine lv_bipush (v := 6) hx hb dX2_init_24 (by decide) ?_
  refine znewa (atype := .int) (a0 := (6, .inl (fun _ => 0))) (N' := 6) (b := sz + 12) hx hb (zh hts k0_48) (hK.2 1 _ rfl).2 hP hD hS hA (fun _ => rfl) (by decide) (by decide) (Nat.le_of_ble_eq_true rfl) (Nat.le_of_ble_eq_true rfl) (Nat.le_of_ble_eq_true rfl) hsz dX2_init_26 (fun H hsz hP hD hS => ?_)
  rw [zQ_push] at hP hD
  have hP : va_P D vwCl (zQ ws q0 (h0, .inr (2, [.int 0, .int 0, .int 0, .ref sz, .ref (sz + 11), .null, .null])) [(sz, .inr (3, [.int 0, .int 0, .int 0, .int 0, .int 0, .int 0, .int 0, .int 0, .int 0, .ref (sz + 1), .ref ((sz + 2)), .ref ((sz + 3)), .ref ((sz + 4)), .ref ((sz + 5)), .ref ((sz + 6)), .ref ((sz + 7)), .ref ((sz + 8)), .ref ((sz + 9)), .ref ((sz + 10))])), ((sz + 1), .inl (E.2.1, 8, .inl (fun _ => 0))), ((sz + 2), .inl (E.2.1, 8, .inl (fun _ => 0))), ((sz + 3), .inl (E.2.2.2.2.1, 6, .inr (.inr (.inr (.inr (fun _ => none)))))), ((sz + 4), .inl (E.2.1, 8, .inl (fun _ => 0))), ((sz + 5), .inl (E.2.1, 8, .inl (fun _ => 0))), ((sz + 6), .inl (E.2.1, 48, .inl (fun _ => 0))), ((sz + 7), .inl (E.2.1, 6, .inl (fun _ => 0))), ((sz + 8), .inl (E.2.1, 6, .inl (fun _ => 0))), ((sz + 9), .inl (E.2.1, 8, .inl (fun _ => 0))), ((sz + 10), .inl (E.2.1, 8, .inl (fun _ => 0))), (sz + 11, .inl (E.2.1, 6, .inl (fun _ => 0))), (sz + 12, .inl (E.2.1, 6, .inl (fun _ => 0)))]) H := hP
  have hD : va_D A (zQ ws q0 (h0, .inr (2, [.int 0, .int 0, .int 0, .ref sz, .ref (sz + 11), .null, .null])) [(sz, .inr (3, [.int 0, .int 0, .int 0, .int 0, .int 0, .int 0, .int 0, .int 0, .int 0, .ref (sz + 1), .ref ((sz + 2)), .ref ((sz + 3)), .ref ((sz + 4)), .ref ((sz + 5)), .ref ((sz + 6)), .ref ((sz + 7)), .ref ((sz + 8)), .ref ((sz + 9)), .ref ((sz + 10))])), ((sz + 1), .inl (E.2.1, 8, .inl (fun _ => 0))), ((sz + 2), .inl (E.2.1, 8, .inl (fun _ => 0))), ((sz + 3), .inl (E.2.2.2.2.1, 6, .inr (.inr (.inr (.inr (fun _ => none)))))), ((sz + 4), .inl (E.2.1, 8, .inl (fun _ => 0))), ((sz + 5), .inl (E.2.1, 8, .inl (fun _ => 0))), ((sz + 6), .inl (E.2.1, 48, .inl (fun _ => 0))), ((sz + 7), .inl (E.2.1, 6, .inl (fun _ => 0))), ((sz + 8), .inl (E.2.1, 6, .inl (fun _ => 0))), ((sz + 9), .inl (E.2.1, 8, .inl (fun _ => 0))), ((sz + 10), .inl (E.2.1, 8, .inl (fun _ => 0))), (sz + 11, .inl (E.2.1, 6, .inl (fun _ => 0))), (sz + 12, .inl (E.2.1, 6, .inl (fun _ => 0)))]) := hD
  have hsz : H.size = sz + 13 := hsz
  refine va_putF (D := D) (ci := 2) (v := .ref (sz + 12)) (ty := .array .int) (C := RX2) (T := TX2) (N := 7) hx hb hts (zi iX2) tyX2 tyX2_ok nmX2 hown hK hP hD hS q0 (zQ_get he _ _) rfl 5 (by decide) (zh hts k0_183) (fun _ h9 => h9) rfl hin rfl (by decide +kernel) rfl rfl (Nat.le_of_ble_eq_true rfl) dX2_init_28 (fun H locs hP hD hS => ?_)
  rw [zQ_set he] at hP hD
  have hP : va_P D vwCl (zQ ws q0 (h0, .inr (2, [.int 0, .int 0, .int 0, .ref sz, .ref (sz + 11), .ref (sz + 12), .null])) [(sz, .inr (3, [.int 0, .int 0, .int 0, .int 0, .int 0, .int 0, .int 0, .int 0, .int 0, .ref (sz + 1), .ref ((sz + 2)), .ref ((sz + 3)), .ref ((sz + 4)), .ref ((sz + 5)), .ref ((sz + 6)), .ref ((sz + 7)), .ref ((sz + 8)), .ref ((sz + 9)), .ref ((sz + 10))])), ((sz + 1), .inl (E.2.1, 8, .inl (fun _ => 0))), ((sz + 2), .inl (E.2.1, 8, .inl (fun _ => 0))), ((sz + 3), .inl (E.2.2.2.2.1, 6, .inr (.inr (.inr (.inr (fun _ => none)))))), ((sz + 4), .inl (E.2.1, 8, .inl (fun _ => 0))), ((sz + 5), .inl (E.2.1, 8, .inl (fun _ => 0))), ((sz + 6), .inl (E.2.1, 48, .inl (fun _ => 0))), ((sz + 7), .inl (E.2.1, 6, .inl (fun _ => 0))), ((sz + 8), .inl (E.2.1, 6, .inl (fun _ => 0))), ((sz + 9), .inl (E.2.1, 8, .inl (fun _ => 0))), ((sz + 10), .inl (E.2.1, 8, .inl (fun _ => 0))), (sz + 11, .inl (E.2.1, 6, .inl (fun _ => 0))), (sz + 12, .inl (E.2.1, 6, .inl (fun _ => 0)))]) H := hP
  have hD : va_D A (zQ ws q0 (h0, .inr (2, [.int 0, .int 0, .int 0, .ref sz, .ref (sz + 11), .ref (sz + 12), .null])) [(sz, .inr (3, [.int 0, .int 0, .int 0, .int 0, .int 0, .int 0, .int 0, .int 0, .int 0, .ref (sz + 1), .ref ((sz + 2)), .ref ((sz + 3)), .ref ((sz + 4)), .ref ((sz + 5)), .ref ((sz + 6)), .ref ((sz + 7)), .ref ((sz + 8)), .ref ((sz + 9)), .ref ((sz + 10))])), ((sz + 1), .inl (E.2.1, 8, .inl (fun _ => 0))), ((sz + 2), .inl (E.2.1, 8, .inl (fun _ => 0))), ((sz + 3), .inl (E.2.2.2.2.1, 6, .inr (.inr (.inr (.inr (fun _ => none)))))), ((sz + 4), .inl (E.2.1, 8, .inl (fun _ => 0))), ((sz + 5), .inl (E.2.1, 8, .inl (fun _ => 0))), ((sz + 6), .inl (E.2.1, 48, .inl (fun _ => 0))), ((sz + 7), .inl (E.2.1, 6, .inl (fun _ => 0))), ((sz + 8), .inl (E.2.1, 6, .inl (fun _ => 0))), ((sz + 9), .inl (E.2.1, 8, .inl (fun _ => 0))), ((sz + 10), .inl (E.2.1, 8, .inl (fun _ => 0))), (sz + 11, .inl (E.2.1, 6, .inl (fun _ => 0))), (sz + 12, .inl (E.2.1, 6, .inl (fun _ => 0)))]) := hD
  refine zsz (fun hz9 => ?_)
  have hz8 : sz + 12 < H.size := (hP (ws.length + 12) _ (zQ_getN rfl)).lt
  rw [hsz0] at hz9
  have hsz : H.size = sz + 13 := Nat.le_antisymm hz9 hz8
  refine lv_aload_n hx hb dX2_init_31 rfl (lv_at hl 0 rfl) ?_
  refine lv_bipush (v := 6) hx hb dX2_init_32 (by decide) ?_
  refine znewa (atype := .int) (a0 := (6, .inl (fun _ => 0))) (N' := 6) (b := sz + 13) hx hb (zh hts k0_48) (hK.2 1 _ rfl).2 hP hD hS hA (fun _ => rfl) (by decide) (by decide) (Nat.le_of_ble_eq_true rfl) (Nat.le_of_ble_eq_true rfl) (Nat.le_of_ble_eq_true rfl) hsz dX2_init_34 (fun H hsz hP hD hS => ?_)
  rw [zQ_push] at hP hD
  have hP : va_P D vwCl (zQ ws q0 (h0, .inr (2, [.int 0, .int 0, .int 0, .ref sz, .ref (sz + 11), .ref (sz + 12), .null])) [(sz, .inr (3, [.int 0, .int 0, .int 0, .int 0, .int 0, .int 0, .int 0, .int 0, .int 0, .ref (sz + 1), .ref ((sz + 2)), .ref ((sz + 3)), .ref ((sz + 4)), .ref ((sz + 5)), .ref ((sz + 6)), .ref ((sz + 7)), .ref ((sz + 8)), .ref ((sz + 9)), .ref ((sz + 10))])), ((sz + 1), .inl (E.2.1, 8, .inl (fun _ => 0))), ((sz + 2), .inl (E.2.1, 8, .inl (fun _ => 0))), ((sz + 3), .inl (E.2.2.2.2.1, 6, .inr (.inr (.inr (.inr (fun _ => none)))))), ((sz + 4), .inl (E.2.1, 8, .inl (fun _ => 0))), ((sz + 5), .inl (E.2.1, 8, .inl (fun _ => 0))), ((sz + 6), .inl (E.2.1, 48, .inl (fun _ => 0))), ((sz + 7), .inl (E.2.1, 6, .inl (fun _ => 0))), ((sz + 8), .inl (E.2.1, 6, .inl (fun _ => 0))), ((sz + 9), .inl (E.2.1, 8, .inl (fun _ => 0))), ((sz + 10), .inl (E.2.1, 8, .inl (fun _ => 0))), (sz + 11, .inl (E.2.1, 6, .inl (fun _ => 0))), (sz + 12, .inl (E.2.1, 6, .inl (fun _ => 0))), (sz + 13, .inl (E.2.1, 6, .inl (fun _ => 0)))]) H := hP
  have hD : va_D A (zQ ws q0 (h0, .inr (2, [.int 0, .int 0, .int 0, .ref sz, .ref (sz + 11), .ref (sz + 12), .null])) [(sz, .inr (3, [.int 0, .int 0, .int 0, .int 0, .int 0, .int 0, .int 0, .int 0, .int 0, .ref (sz + 1), .ref ((sz + 2)), .ref ((sz + 3)), .ref ((sz + 4)), .ref ((sz + 5)), .ref ((sz + 6)), .ref ((sz + 7)), .ref ((sz + 8)), .ref ((sz + 9)), .ref ((sz + 10))])), ((sz + 1), .inl (E.2.1, 8, .inl (fun _ => 0))), ((sz + 2), .inl (E.2.1, 8, .inl (fun _ => 0))), ((sz + 3), .inl (E.2.2.2.2.1, 6, .inr (.inr (.inr (.inr (fun _ => none)))))), ((sz + 4), .inl (E.2.1, 8, .inl (fun _ => 0))), ((sz + 5), .inl (E.2.1, 8, .inl (fun _ => 0))), ((sz + 6), .inl (E.2.1, 48, .inl (fun _ => 0))), ((sz + 7), .inl (E.2.1, 6, .inl (fun _ => 0))), ((sz + 8), .inl (E.2.1, 6, .inl (fun _ => 0))), ((sz + 9), .inl (E.2.1, 8, .inl (fun _ => 0))), ((sz + 10), .inl (E.2.1, 8, .inl (fun _ => 0))), (sz + 11, .inl (E.2.1, 6, .inl (fun _ => 0))), (sz + 12, .inl (E.2.1, 6, .inl (fun _ => 0))), (sz + 13, .inl (E.2.1, 6, .inl (fun _ => 0)))]) := hD
  have hsz : H.size = sz + 14 := hsz
  refine va_putF (D := D) (ci := 2) (v := .ref (sz + 13)) (ty := .array .int) (C := RX2) (T := TX2) (N := 7) hx hb hts (zi iX2) tyX2 tyX2_ok nmX2 hown hK hP hD hS q0 (zQ_get he _ _) rfl 6 (by decide) (zh hts k0_184) (fun _ h9 => h9) rfl hin rfl (by decide +kernel) rfl rfl (Nat.le_of_ble_eq_true rfl) dX2_init_36 (fun H locs hP hD hS => ?_)
  rw [zQ_set he] at hP hD
  have hP : va_P D vwCl (zQ ws q0 (h0, .inr (2, [.int 0, .int 0, .int 0, .ref sz, .ref (sz + 11), .ref (sz + 12), .ref (sz + 13)])) [(sz, .inr (3, [.int 0, .int 0, .int 0, .int 0, .int 0, .int 0, .int 0, .int 0, .int 0, .ref (sz + 1), .ref ((sz + 2)), .ref ((sz + 3)), .ref ((sz + 4)), .ref ((sz + 5)), .ref ((sz + 6)), .ref ((sz + 7)), .ref ((sz + 8)), .ref ((sz + 9)), .ref ((sz + 10))])), ((sz + 1), .inl (E.2.1, 8, .inl (fun _ => 0))), ((sz + 2), .inl (E.2.1, 8, .inl (fun _ => 0))), ((sz + 3), .inl (E.2.2.2.2.1, 6, .inr (.inr (.inr (.inr (fun _ => none)))))), ((sz + 4), .inl (E.2.1, 8, .inl (fun _ => 0))), ((sz + 5), .inl (E.2.1, 8, .inl (fun _ => 0))), ((sz + 6), .inl (E.2.1, 48, .inl (fun _ => 0))), ((sz + 7), .inl (E.2.1, 6, .inl (fun _ => 0))), ((sz + 8), .inl (E.2.1, 6, .inl (fun _ => 0))), ((sz + 9), .inl (E.2.1, 8, .inl (fun _ => 0))), ((sz + 10), .inl (E.2.1, 8, .inl (fun _ => 0))), (sz + 11, .inl (E.2.1, 6, .inl (fun _ => 0))), (sz + 12, .inl (E.2.1, 6, .inl (fun _ => 0))), (sz + 13, .inl (E.2.1, 6, .inl (fun _ => 0)))]) H := hP
  have hD : va_D A (zQ ws q0 (h0, .inr (2, [.int 0, .int 0, .int 0, .ref sz, .ref (sz + 11), .ref (sz + 12), .ref (sz + 13)])) [(sz, .inr (3, [.int 0, .int 0, .int 0, .int 0, .int 0, .int 0, .int 0, .int 0, .int 0, .ref (sz + 1), .ref ((sz + 2)), .ref ((sz + 3)), .ref ((sz + 4)), .ref ((sz + 5)), .ref ((sz + 6)), .ref ((sz + 7)), .ref ((sz + 8)), .ref ((sz + 9)), .ref ((sz + 10))])), ((sz + 1), .inl (E.2.1, 8, .inl (fun _ => 0))), ((sz + 2), .inl (E.2.1, 8, .inl (fun _ => 0))), ((sz + 3), .inl (E.2.2.2.2.1, 6, .inr (.inr (.inr (.inr (fun _ => none)))))), ((sz + 4), .inl (E.2.1, 8, .inl (fun _ => 0))), ((sz + 5), .inl (E.2.1, 8, .inl (fun _ => 0))), ((sz + 6), .inl (E.2.1, 48, .inl (fun _ => 0))), ((sz + 7), .inl (E.2.1, 6, .inl (fun _ => 0))), ((sz + 8), .inl (E.2.1, 6, .inl (fun _ => 0))), ((sz + 9), .inl (E.2.1, 8, .inl (fun _ => 0))), ((sz + 10), .inl (E.2.1, 8, .inl (fun _ => 0))), (sz + 11, .inl (E.2.1, 6, .inl (fun _ => 0))), (sz + 12, .inl (E.2.1, 6, .inl (fun _ => 0))), (sz + 13, .inl (E.2.1, 6, .inl (fun _ => 0)))]) := hD
  refine zsz (fun hz9 => ?_)
  have hz8 : sz + 13 < H.size := (hP (ws.length + 13) _ (zQ_getN rfl)).lt
  rw [hsz0] at hz9
  have hsz : H.size = sz + 14 := Nat.le_antisymm hz9 hz8
  exact hend _ _ _ _ hP hD hS dX2_init_39
set_option maxHeartbeats 400000 in
set_option maxRecDepth 100000 in
theorem qX9_init (l : Launch) (D : va_G) (E : zE) (ws : va_W) (q0 h0 : Nat) (he : ws[q0]? = some (h0, .inr (8, [.null, .int 0]))) (sz : Nat) : zCc l yX9_init zwX9_init ({ frames := 1, cells := 1, slots := 16, locals := 12 } : Room) [.ref h0] D E sz ws (zQ ws q0 (h0, .inr (8, [.ref sz, .int 0])) [(sz, .inl (E.2.1, 16, .inl (fun _ => 0)))]) 1 16 := by
  refine zent_ct (cc := cX9_init) (nL := 1) (by decide) rfl (Nat.le_of_ble_eq_true rfl) ?_
  intro p e s m args below meth c Q A hx hb hml hown hts hA hK hP hD hS hE hO hsz0 hin ls hl hend
  have hown : s.vm.findClass RX9 = some m.cls := hown
  have hin : meth.name = "<init>" := hin
  have hl : lv_has ls 1 [(0, .ref h0)] := hl
  have hsz : s.heap.size = sz := hsz0
  rw [zQ_0 he] at hP hD
  refine lv_aload_n hx hb dX9_init_0 rfl (lv_at hl 0 rfl) ?_
  refine W.objInit hx hb hown (zh hts k0_205) (zh hts k0_27) (zh hts k0_28) rfl (by rw [hml]; exact hl.1) rfl dX9_init_1 (Nat.le_of_ble_eq_true rfl) (Nat.le_of_ble_eq_true rfl) ?_
  refine W.eq (g2 := F0 m 4 ls []) rfl ?_
  refine lv_aload_n hx hb dX9_init_4 rfl (lv_at hl 0 rfl) ?_
  refine lv_bipush (v := 16) hx hb dX9_init_5 (by decide) ?_
  refine znewa (atype := .int) (a0 := (16, .inl (fun _ => 0))) (N' := 16) (b := sz) hx hb (zh hts k0_48) (hK.2 1 _ rfl).2 hP hD hS hA (fun _ => rfl) (by decide) (by decide) (Nat.le_of_ble_eq_true rfl) (Nat.le_of_ble_eq_true rfl) (Nat.le_of_ble_eq_true rfl) hsz dX9_init_7 (fun H hsz hP hD hS => ?_)
  rw [zQ_push] at hP hD
  have hP : va_P D vwCl (zQ ws q0 (h0, .inr (8, [.null, .int 0])) [(sz, .inl (E.2.1, 16, .inl (fun _ => 0)))]) H := hP
  have hD : va_D A (zQ ws q0 (h0, .inr (8, [.null, .int 0])) [(sz, .inl (E.2.1, 16, .inl (fun _ => 0)))]) := hD
  have hsz : H.size = sz + 1 := hsz
  refine va_putF (D := D) (ci := 8) (v := .ref sz) (ty := .array .int) (C := RX9) (T := TX9) (N := 2) hx hb hts (zi iX9) tyX9 tyX9_ok nmX9 hown hK hP hD hS q0 (zQ_get he _ _) rfl 0 (by decide) (zh hts k0_206) (fun _ h9 => h9) rfl hin rfl (by decide +kernel) rfl rfl (Nat.le_of_ble_eq_true rfl) dX9_init_9 (fun H locs hP hD hS => ?_)
  rw [zQ_set he] at hP hD
  have hP : va_P D vwCl (zQ ws q0 (h0, .inr (8, [.ref sz, .int 0])) [(sz, .inl (E.2.1, 16, .inl (fun _ => 0)))]) H := hP
  have hD : va_D A (zQ ws q0 (h0, .inr (8, [.ref sz, .int 0])) [(sz, .inl (E.2.1, 16, .inl (fun _ => 0)))]) := hD
  refine zsz (fun hz9 => ?_)
  have hz8 : sz < H.size := (hP (ws.length + 0) _ (zQ_getN rfl)).lt
  rw [hsz0] at hz9
  have hsz : H.size = sz + 1 := Nat.le_antisymm hz9 hz8
  exact hend _ _ _ _ hP hD hS dX9_init_12
set_option maxHeartbeats 400000 in
set_option maxRecDepth 100000 in
theorem qX12_init (l : Launch) (D : va_G) (E : zE) (ws : va_W) (q0 h0 : Nat) (he : ws[q0]? = some (h0, .inr (11, [.int 0, .int 0, .null, .null, .null, .null, .null, .int 0, .null, .null, .int 0, .int 0, .int 0, .int 0, .int 0, .int 0, .int 0, .int 0, .int 0, .long 0, .int 0, .int 0, .null, .null, .null, .null, .null, .null, .null, .null, .int 0]))) (sz : Nat) : zCc l yX12_init zwX12_init ({ frames := 1, cells := 15, slots := 1412, locals := 12 } : Room) [.ref h0] D E sz ws (zQ ws q0 (h0, .inr (11, [.int 0, .int 0, .ref sz, .ref (sz + 1), .ref (sz + 2), .ref (sz + 3), .ref (sz + 4), .int 0, .ref (sz + 5), .ref (sz + 6), .int 0, .int 0, .int 0, .int 0, .int 0, .int 0, .int 0, .int 0, .int 0, .long 0, .int 0, .int 0, .ref (sz + 7), .ref (sz + 8), .ref (sz + 9), .ref (sz + 10), .ref (sz + 11), .ref (sz + 12), .ref (sz + 13), .ref (sz + 14), .int 0])) [(sz, .inl (E.2.1, 8, .inl (upd (upd (upd (upd (upd (upd (upd (upd (fun _ => 0) 0 (-1)) 1 (-1)) 2 (-1)) 3 (-1)) 4 (-1)) 5 (-1)) 6 (-1)) 7 (-1)))), (sz + 1, .inl (E.2.1, 8, .inl (fun _ => 0))), (sz + 2, .inl (E.2.1, 320, .inl (fun _ => 0))), (sz + 3, .inl (E.2.1, 58, .inl (fun _ => 0))), (sz + 4, .inl (E.2.1, 58, .inl (fun _ => 0))), (sz + 5, .inl (E.2.1, 77, .inl (fun _ => 0))), (sz + 6, .inl (E.2.1, 500, .inl (fun _ => 0))), (sz + 7, .inl (E.2.1, 6, .inl (fun _ => 0))), (sz + 8, .inl (E.2.1, 6, .inl (fun _ => 0))), (sz + 9, .inl (E.2.1, 6, .inl (fun _ => 0))), (sz + 10, .inl (E.2.1, 77, .inl (fun _ => 0))), (sz + 11, .inl (E.2.2.2.1, 2, .inl (fun _ => 0))), (sz + 12, .inl (E.2.1, 116, .inl (fun _ => 0))), (sz + 13, .inl (E.2.1, 154, .inl (fun _ => 0))), (sz + 14, .inl (E.2.1, 16, .inl (fun _ => 0)))]) 15 1412 := by
  refine zent_ct (cc := cX12_init) (nL := 1) (by decide) rfl (Nat.le_of_ble_eq_true rfl) ?_
  intro p e s m args below meth c Q A hx hb hml hown hts hA hK hP hD hS hE hO hsz0 hin ls hl hend
  have hown : s.vm.findClass RX12 = some m.cls := hown
  have hin : meth.name = "<init>" := hin
  have hl : lv_has ls 1 [(0, .ref h0)] := hl
  have hsz : s.heap.size = sz := hsz0
  rw [zQ_0 he] at hP hD
  refine lv_aload_n hx hb dX12_init_0 rfl (lv_at hl 0 rfl) ?_
  refine W.objInit hx hb hown (zh hts k4_65) (zh hts k0_27) (zh hts k0_28) rfl (by rw [hml]; exact hl.1) rfl dX12_init_1 (Nat.le_of_ble_eq_true rfl) (Nat.le_of_ble_eq_true rfl) ?_
  refine W.eq (g2 := F0 m 4 ls []) rfl ?_
  refine lv_aload_n hx hb dX12_init_4 rfl (lv_at hl 0 rfl) ?_
  refine lv_bipush (v := 8) hx hb dX12_init_5 (by decide) ?_
  refine znewa (atype := .int) (a0 := (8, .inl (fun _ => 0))) (N' := 8) (b := sz) hx hb (zh hts k0_48) (hK.2 1 _ rfl).2 hP hD hS hA (fun _ => rfl) (by decide) (by decide) (Nat.le_of_ble_eq_true rfl) (Nat.le_of_ble_eq_true rfl) (Nat.le_of_ble_eq_true rfl) hsz dX12_init_7 (fun H hsz hP hD hS => ?_)
  rw [zQ_push] at hP hD
  have hP : va_P D vwCl (zQ ws q0 (h0, .inr (11, [.int 0, .int 0, .null, .null, .null, .null, .null, .int 0, .null, .null, .int 0, .int 0, .int 0, .int 0, .int 0, .int 0, .int 0, .int 0, .int 0, .long 0, .int 0, .int 0, .null, .null, .null, .null, .null, .null, .null, .null, .int 0])) [(sz, .inl (E.2.1, 8, .inl (fun _ => 0)))]) H := hP
  have hD : va_D A (zQ ws q0 (h0, .inr (11, [.int 0, .int 0, .null, .null, .null, .null, .null, .int 0, .null, .null, .int 0, .int 0, .int 0, .int 0, .int 0, .int 0, .int 0, .int 0, .int 0, .long 0, .int 0, .int 0, .null, .null, .null, .null, .null, .null, .null, .null, .int 0])) [(sz, .inl (E.2.1, 8, .inl (fun _ => 0)))]) := hD
  have hsz : H.size = sz + 1 := hsz
  refine lv_dup hx hb dX12_init_9 rfl ?_
  refine lv_iconst (v := 0) hx hb dX12_init_10 (by decide) ?_
  refine lv_iconst (v := -1) hx hb dX12_init_11 (by decide) ?_
  refine va_iast hx hb hK hP hD hS (ws.length + 0) 1 (zQ_getN rfl) rfl (show vp_in 0 8 from by unfold vp_in; decide) dX12_init_12 (fun H locs hP hD hS => ?_)
  rw [zQ_setN] at hP hD
  have hP : va_P D vwCl (zQ ws q0 (h0, .inr (11, [.int 0, .int 0, .null, .null, .null, .null, .null, .int 0, .null, .null, .int 0, .int 0, .int 0, .int 0, .int 0, .int 0, .int 0, .int 0, .int 0, .long 0, .int 0, .int 0, .null, .null, .null, .null, .null, .null, .null, .null, .int 0])) [(sz, .inl (E.2.1, 8, .inl (upd (fun _ => 0) 0 (-1))))]) H := hP
  have hD : va_D A (zQ ws q0 (h0, .inr (11, [.int 0, .int 0, .null, .null, .null, .null, .null, .int 0, .null, .null, .int 0, .int 0, .int 0, .int 0, .int 0, .int 0, .int 0, .int 0, .int 0, .long 0, .int 0, .int 0, .null, .null, .null, .null, .null, .null, .null, .null, .int 0])) [(sz, .inl (E.2.1, 8, .inl (upd (fun _ => 0) 0 (-1))))]) := hD
  refine zsz (fun hz9 => ?_)
  have hz8 : sz < H.size := (hP (ws.length + 0) _ (zQ_getN rfl)).lt
  rw [hsz0] at hz9
  have hsz : H.size = sz + 1 := Nat.le_antisymm hz9 hz8
  refine lv_dup hx hb dX12_init_13 rfl ?_
  refine lv_iconst (v := 1) hx hb dX12_init_14 (by decide) ?_
  refine lv_iconst (v := -1) hx hb dX12_init_15 (by decide) ?_
  refine va_iast hx hb hK hP hD hS (ws.length + 0) 1 (zQ_getN rfl) rfl (show vp_in 1 8 from by unfold vp_in; decide) dX12_init_16 (fun H locs hP hD hS => ?_)
  rw [zQ_setN] at hP hD
  have hP : va_P D vwCl (zQ ws q0 (h0, .inr (11, [.int 0, .int 0, .null, .null, .null, .null, .null, .int 0, .null, .null, .int 0, .int 0, .int 0, .int 0, .int 0, .int 0, .int 0, .int 0, .int 0, .long 0, .int 0, .int 0, .null, .null, .null, .null, .null, .null, .null, .null, .int 0])) [(sz, .inl (E.2.1, 8, .inl (upd (upd (fun _ => 0) 0 (-1)) 1 (-1))))]) H := hP
  have hD : va_D A (zQ ws q0 (h0, .inr (11, [.int 0, .int 0, .null, .null, .null, .null, .null, .int 0, .null, .null, .int 0, .int 0, .int 0, .int 0, .int 0, .int 0, .int 0, .int 0, .int 0, .long 0, .int 0, .int 0, .null, .null, .null, .null, .null, .null, .null, .null, .int 0])) [(sz, .inl (E.2.1, 8, .inl (upd (upd (fun _ => 0) 0 (-1)) 1 (-1))))]) := hD
  refine zsz (fun hz9 => ?_)
  have hz8 : sz < H.size := (hP (ws.length + 0) _ (zQ_getN rfl)).lt
  rw [hsz0] at hz9
  have hsz : H.size = sz + 1 := Nat.le_antisymm hz9 hz8
  refine lv_dup hx hb dX12_init_17 rfl ?_
  refine lv_iconst (v := 2) hx hb dX12_init_18 (by decide) ?_
  refine lv_iconst (v := -1) hx hb dX12_init_19 (by decide) ?_
  refine va_iast hx hb hK hP hD hS (ws.length + 0) 1 (zQ_getN rfl) rfl (show vp_in 2 8 from by unfold vp_in; decide) dX12_init_20 (fun H locs hP hD hS => ?_)
  rw [zQ_setN] at hP hD
  have hP : va_P D vwCl (zQ ws q0 (h0, .inr (11, [.int 0, .int 0, .null, .null, .null, .null, .null, .int 0, .null, .null, .int 0, .int 0, .int 0, .int 0, .int 0, .int 0, .int 0, .int 0, .int 0, .long 0, .int 0, .int 0, .null, .null, .null, .null, .null, .null, .null, .null, .int 0])) [(sz, .inl (E.2.1, 8, .inl (upd (upd (upd (fun _ => 0) 0 (-1)) 1 (-1)) 2 (-1))))]) H := hP
  have hD : va_D A (zQ ws q0 (h0, .inr (11, [.int 0, .int 0, .null, .null, .null, .null, .null, .int 0, .null, .null, .int 0, .int 0, .int 0, .int 0, .int 0, .int 0, .int 0, .int 0, .int 0, .long 0, .int 0, .int 0, .null, .null, .null, .null, .null, .null, .null, .null, .int 0])) [(sz, .inl (E.2.1, 8, .inl (upd (upd (upd (fun _ => 0) 0 (-1)) 1 (-1)) 2 (-1))))]) := hD
  refine zsz (fun hz9 => ?_)
  have hz8 : sz < H.size := (hP (ws.length + 0) _ (zQ_getN rfl)).lt
  rw [hsz0] at hz9
  have hsz : H.size = sz + 1 := Nat.le_antisymm hz9 hz8
  refine lv_dup hx hb dX12_init_21 rfl ?_
  refine lv_iconst (v := 3) hx hb dX12_init_22 (by decide) ?_
  refine lv_iconst (v := -1) hx hb dX12_init_23 (by decide) ?_
  refine va_iast hx hb hK hP hD hS (ws.length + 0) 1 (zQ_getN rfl) rfl (show vp_in 3 8 from by unfold vp_in; decide) dX12_init_24 (fun H locs hP hD hS => ?_)
  rw [zQ_setN] at hP hD
  have hP : va_P D vwCl (zQ ws q0 (h0, .inr (11, [.int 0, .int 0, .null, .null, .null, .null, .null, .int 0, .null, .null, .int 0, .int 0, .int 0, .int 0, .int 0, .int 0, .int 0, .int 0, .int 0, .long 0, .int 0, .int 0, .null, .null, .null, .null, .null, .null, .null, .null, .int 0])) [(sz, .inl (E.2.1, 8, .inl (upd (upd (upd (upd (fun _ => 0) 0 (-1)) 1 (-1)) 2 (-1)) 3 (-1))))]) H := hP
  have hD : va_D A (zQ ws q0 (h0, .inr (11, [.int 0, .int 0, .null, .null, .null, .null, .null, .int 0, .null, .null, .int 0, .int 0, .int 0, .int 0, .int 0, .int 0, .int 0, .int 0, .int 0, .long 0, .int 0, .int 0, .null, .null, .null, .null, .null, .null, .null, .null, .int 0])) [(sz, .inl (E.2.1, 8, .inl (upd (upd (upd (upd (fun _ => 0) 0 (-1)) 1 (-1)) 2 (-1)) 3 (-1))))]) := hD
  refine zsz (fun hz9 => ?_)
  have hz8 : sz < H.size := (hP (ws.length + 0) _ (zQ_getN rfl)).lt
  rw [hsz0] at hz9
  have hsz : H.size = sz + 1 := Nat.le_antisymm hz9 hz8
  refine lv_dup hx hb dX12_init_25 rfl ?_
  refine lv_iconst (v := 4) hx hb dX12_init_26 (by decide) ?_
  refine lv_iconst (v := -1) hx hb dX12_init_27 (by decide) ?_
  refine va_iast hx hb hK hP hD hS (ws.length + 0) 1 (zQ_getN rfl) rfl (show vp_in 4 8 from by unfold vp_in; decide) dX12_init_28 (fun H locs hP hD hS => ?_)
  rw [zQ_setN] at hP hD
  have hP : va_P D vwCl (zQ ws q0 (h0, .inr (11, [.int 0, .int 0, .null, .null, .null, .null, .null, .int 0, .null, .null, .int 0, .int 0, .int 0, .int 0, .int 0, .int 0, .int 0, .int 0, .int 0, .long 0, .int 0, .int 0, .null, .null, .null, .null, .null, .null, .null, .null, .int 0])) [(sz, .inl (E.2.1, 8, .inl (upd (upd (upd (upd (upd (fun _ => 0) 0 (-1)) 1 (-1)) 2 (-1)) 3 (-1)) 4 (-1))))]) H := hP
  have hD : va_D A (zQ ws q0 (h0, .inr (11, [.int 0, .int 0, .null, .null, .null, .null, .null, .int 0, .null, .null, .int 0, .int 0, .int 0, .int 0, .int 0, .int 0, .int 0, .int 0, .int 0, .long 0, .int 0, .int 0, .null, .null, .null, .null, .null, .null, .null, .null, .int 0])) [(sz, .inl (E.2.1, 8, .inl (upd (upd (upd (upd (upd (fun _ => 0) 0 (-1)) 1 (-1)) 2 (-1)) 3 (-1)) 4 (-1))))]) := hD
  refine zsz (fun hz9 => ?_)
  have hz8 : sz < H.size := (hP (ws.length + 0) _ (zQ_getN rfl)).lt
  rw [hsz0] at hz9
  have hsz : H.size = sz + 1 := Nat.le_antisymm hz9 hz8
  refine lv_dup hx hb dX12_init_29 rfl ?_
  refine lv_iconst (v := 5) hx hb dX12_init_30 (by decide) ?_
  refine lv_iconst (v := -1) hx hb dX12_init_31 (by decide) ?_
  refine va_iast hx hb hK hP hD hS (ws.length + 0) 1 (zQ_getN rfl) rfl (show vp_in 5 8 from by unfold vp_in; decide) dX12_init_32 (fun H locs hP hD hS => ?_)
  rw [zQ_setN] at hP hD
  have hP : va_P D vwCl (zQ ws q0 (h0, .inr (11, [.int 0, .int 0, .null, .null, .null, .null, .null, .int 0, .null, .null, .int 0, .int 0, .int 0, .int 0, .int 0, .int 0, .int 0, .int 0, .int 0, .long 0, .int 0, .int 0, .null, .null, .null, .null, .null, .null, .null, .null, .int 0])) [(sz, .inl (E.2.1, 8, .inl (upd (upd (upd (upd (upd (upd (fun _ => 0) 0 (-1)) 1 (-1)) 2 (-1)) 3 (-1)) 4 (-1)) 5 (-1))))]) H := hP
  have hD : va_D A (zQ ws q0 (h0, .inr (11, [.int 0, .int 0, .null, .null, .null, .null, .null, .int 0, .null, .null, .int 0, .int 0, .int 0, .int 0, .int 0, .int 0, .int 0, .int 0, .int 0, .long 0, .int 0, .int 0, .null, .null, .null, .null, .null, .null, .null, .null, .int 0])) [(sz, .inl (E.2.1, 8, .inl (upd (upd (upd (upd (upd (upd (fun _ => 0) 0 (-1)) 1 (-1)) 2 (-1)) 3 (-1)) 4 (-1)) 5 (-1))))]) := hD
  refine zsz (fun hz9 => ?_)
  have hz8 : sz < H.size := (hP (ws.length + 0) _ (zQ_getN rfl)).lt
  rw [hsz0] at hz9
  have hsz : H.size = sz + 1 := Nat.le_antisymm hz9 hz8
  refine lv_dup hx hb dX12_init_33 rfl ?_
  refine lv_bipush (v := 6) hx hb dX12_init_34 (by decide) ?_
  refine lv_iconst (v := -1) hx hb dX12_init_36 (by decide) ?_
  refine va_iast hx hb hK hP hD hS (ws.length + 0) 1 (zQ_getN rfl) rfl (show vp_in 6 8 from by unfold vp_in; decide) dX12_init_37 (fun H locs hP hD hS => ?_)
  rw [zQ_setN] at hP hD
  have hP : va_P D vwCl (zQ ws q0 (h0, .inr (11, [.int 0, .int 0, .null, .null, .null, .null, .null, .int 0, .null, .null, .int 0, .int 0, .int 0, .int 0, .int 0, .int 0, .int 0, .int 0, .int 0, .long 0, .int 0, .int 0, .null, .null, .null, .null, .null, .null, .null, .null, .int 0])) [(sz, .inl (E.2.1, 8, .inl (upd (upd (upd (upd (upd (upd (upd (fun _ => 0) 0 (-1)) 1 (-1)) 2 (-1)) 3 (-1)) 4 (-1)) 5 (-1)) 6 (-1))))]) H := hP
  have hD : va_D A (zQ ws q0 (h0, .inr (11, [.int 0, .int 0, .null, .null, .null, .null, .null, .int 0, .null, .null, .int 0, .int 0, .int 0, .int 0, .int 0, .int 0, .int 0, .int 0, .int 0, .long 0, .int 0, .int 0, .null, .null, .null, .null, .null, .null, .null, .null, .int 0])) [(sz, .inl (E.2.1, 8, .inl (upd (upd (upd (upd (upd (upd (upd (fun _ => 0) 0 (-1)) 1 (-1)) 2 (-1)) 3 (-1)) 4 (-1)) 5 (-1)) 6 (-1))))]) := hD
  refine zsz (fun hz9 => ?_)
  have hz8 : sz < H.size := (hP (ws.length + 0) _ (zQ_getN rfl)).lt
  rw [hsz0] at hz9
  have hsz : H.size = sz + 1 := Nat.le_antisymm hz9 hz8
  refine lv_dup hx hb dX12_init_38 rfl ?_
  refine lv_bipush (v := 7) hx hb dX12_init_39 (by decide) ?_
  refine lv_iconst (v := -1) hx hb dX12_init_41 (by decide) ?_
  refine va_iast hx hb hK hP hD hS (ws.length + 0) 1 (zQ_getN rfl) rfl (show vp_in 7 8 from by unfold vp_in; decide) dX12_init_42 (fun H locs hP hD hS => ?_)
  rw [zQ_setN] at hP hD
  have hP : va_P D vwCl (zQ ws q0 (h0, .inr (11, [.int 0, .int 0, .null, .null, .null, .null, .null, .int 0, .null, .null, .int 0, .int 0, .int 0, .int 0, .int 0, .int 0, .int 0, .int 0, .int 0, .long 0, .int 0, .int 0, .null, .null, .null, .null, .null, .null, .null, .null, .int 0])) [(sz, .inl (E.2.1, 8, .inl (upd (upd (upd (upd (upd (upd (upd (upd (fun _ => 0) 0 (-1)) 1 (-1)) 2 (-1)) 3 (-1)) 4 (-1)) 5 (-1)) 6 (-1)) 7 (-1))))]) H := hP
  have hD : va_D A (zQ ws q0 (h0, .inr (11, [.int 0, .int 0, .null, .null, .null, .null, .null, .int 0, .null, .null, .int 0, .int 0, .int 0, .int 0, .int 0, .int 0, .int 0, .int 0, .int 0, .long 0, .int 0, .int 0, .null, .null, .null, .null, .null, .null, .null, .null, .int 0])) [(sz, .inl (E.2.1, 8, .inl (upd (upd (upd (upd (upd (upd (upd (upd (fun _ => 0) 0 (-1)) 1 (-1)) 2 (-1)) 3 (-1)) 4 (-1)) 5 (-1)) 6 (-1)) 7 (-1))))]) := hD
  refine zsz (fun hz9 => ?_)
  have hz8 : sz < H.size := (hP (ws.length + 0) _ (zQ_getN rfl)).lt
  rw [hsz0] at hz9
  have hsz : H.size = sz + 1 := Nat.le_antisymm hz9 hz8
  refine va_putF (D := D) (ci := 11) (v := .ref sz) (ty := .array .int) (C := RX12) (T := TX12) (N := 31) hx hb hts (zi iX12) tyX12 tyX12_ok nmX12 hown hK hP hD hS q0 (zQ_get he _ _) rfl 2 (by decide) (zh hts k4_68) (fun _ h9 => h9) rfl hin rfl (by decide +kernel) rfl rfl (Nat.le_of_ble_eq_true rfl) dX12_init_43 (fun H locs hP hD hS => ?_)
  rw [zQ_set he] at hP hD
  have hP : va_P D vwCl (zQ ws q0 (h0, .inr (11, [.int 0, .int 0, .ref sz, .null, .null, .null, .null, .int 0, .null, .null, .int 0, .int 0, .int 0, .int 0, .int 0, .int 0, .int 0, .int 0, .int 0, .long 0, .int 0, .int 0, .null, .null, .null, .null, .null, .null, .null, .null, .int 0])) [(sz, .inl (E.2.1, 8, .inl (upd (upd (upd (upd (upd (upd (upd (upd (fun _ => 0) 0 (-1)) 1 (-1)) 2 (-1)) 3 (-1)) 4 (-1)) 5 (-1)) 6 (-1)) 7 (-1))))]) H := hP
  have hD : va_D A (zQ ws q0 (h0, .inr (11, [.int 0, .int 0, .ref sz, .null, .null, .null, .null, .int 0, .null, .null, .int 0, .int 0, .int 0, .int 0, .int 0, .int 0, .int 0, .int 0, .int 0, .long 0, .int 0, .int 0, .null, .null, .null, .null, .null, .null, .null, .null, .int 0])) [(sz, .inl (E.2.1, 8, .inl (upd (upd (upd (upd (upd (upd (upd (upd (fun _ => 0) 0 (-1)) 1 (-1)) 2 (-1)) 3 (-1)) 4 (-1)) 5 (-1)) 6 (-1)) 7 (-1))))]) := hD
  refine zsz (fun hz9 => ?_)
  have hz8 : sz < H.size := (hP (ws.length + 0) _ (zQ_getN rfl)).lt
  rw [hsz0] at hz9
  have hsz : H.size = sz + 1 := Nat.le_antisymm hz9 hz8
  refine lv_aload_n hx hb dX12_init_46 rfl (lv_at hl 0 rfl) ?_
  refine lv_bipush (v := 8) hx hb dX12_init_47 (by decide) ?_
  refine znewa (atype := .int) (a0 := (8, .inl (fun _ => 0))) (N' := 8) (b := sz + 1) hx hb (zh hts k0_48) (hK.2 1 _ rfl).2 hP hD hS hA (fun _ => rfl) (by decide) (by decide) (Nat.le_of_ble_eq_true rfl) (Nat.le_of_ble_eq_true rfl) (Nat.le_of_ble_eq_true rfl) hsz dX12_init_49 (fun H hsz hP hD hS => ?_)
  rw [zQ_push] at hP hD
  have hP : va_P D vwCl (zQ ws q0 (h0, .inr (11, [.int 0, .int 0, .ref sz, .null, .null, .null, .null, .int 0, .null, .null, .int 0, .int 0, .int 0, .int 0, .int 0, .int 0, .int 0, .int 0, .int 0, .long 0, .int 0, .int 0, .null, .null, .null, .null, .null, .null, .null, .null, .int 0])) [(sz, .inl (E.2.1, 8, .inl (upd (upd (upd (upd (upd (upd (upd (upd (fun _ => 0) 0 (-1)) 1 (-1)) 2 (-1)) 3 (-1)) 4 (-1)) 5 (-1)) 6 (-1)) 7 (-1)))), (sz + 1, .inl (E.2.1, 8, .inl (fun _ => 0)))]) H := hP
  have hD : va_D A (zQ ws q0 (h0, .inr (11, [.int 0, .int 0, .ref sz, .null, .null, .null, .null, .int 0, .null, .null, .int 0, .int 0, .int 0, .int 0, .int 0, .int 0, .int 0, .int 0, .int 0, .long 0, .int 0, .int 0, .null, .null, .null, .null, .null, .null, .null, .null, .int 0])) [(sz, .inl (E.2.1, 8, .inl (upd (upd (upd (upd (upd (upd (upd (upd (fun _ => 0) 0 (-1)) 1 (-1)) 2 (-1)) 3 (-1)) 4 (-1)) 5 (-1)) 6 (-1)) 7 (-1)))), (sz + 1, .inl (E.2.1, 8, .inl (fun _ => 0)))]) := hD
  have hsz : H.size = sz + 2 := hsz
  refine va_putF (D := D) (ci := 11) (v := .ref (sz + 1)) (ty := .array .int) (C := RX12) (T := TX12) (N := 31) hx hb hts (zi iX12) tyX12 tyX12_ok nmX12 hown hK hP hD hS q0 (zQ_get he _ _) rfl 3 (by decide) (zh hts k4_69) (fun _ h9 => h9) rfl hin rfl (by decide +kernel) rfl rfl (Nat.le_of_ble_eq_true rfl) dX12_init_51 (fun H locs hP hD hS => ?_)
  rw [zQ_set he] at hP hD
  have hP : va_P D vwCl (zQ ws q0 (h0, .inr (11, [.int 0, .int 0, .ref sz, .ref (sz + 1), .null, .null, .null, .int 0, .null, .null, .int 0, .int 0, .int 0, .int 0, .int 0, .int 0, .int 0, .int 0, .int 0, .long 0, .int 0, .int 0, .null, .null, .null, .null, .null, .null, .null, .null, .int 0])) [(sz, .inl (E.2.1, 8, .inl (upd (upd (upd (upd (upd (upd (upd (upd (fun _ => 0) 0 (-1)) 1 (-1)) 2 (-1)) 3 (-1)) 4 (-1)) 5 (-1)) 6 (-1)) 7 (-1)))), (sz + 1, .inl (E.2.1, 8, .inl (fun _ => 0)))]) H := hP
  have hD : va_D A (zQ ws q0 (h0, .inr (11, [.int 0, .int 0, .ref sz, .ref (sz + 1), .null, .null, .null, .int 0, .null, .null, .int 0, .int 0, .int 0, .int 0, .int 0, .int 0, .int 0, .int 0, .int 0, .long 0, .int 0, .int 0, .null, .null, .null, .null, .null, .null, .null, .null, .int 0])) [(sz, .inl (E.2.1, 8, .inl (upd (upd (upd (upd (upd (upd (upd (upd (fun _ => 0) 0 (-1)) 1 (-1)) 2 (-1)) 3 (-1)) 4 (-1)) 5 (-1)) 6 (-1)) 7 (-1)))), (sz + 1, .inl (E.2.1, 8, .inl (fun _ => 0)))]) := hD
  refine zsz (fun hz9 => ?_)
  have hz8 : sz + 1 < H.size := (hP (ws.length + 1) _ (zQ_getN rfl)).lt
  rw [hsz0] at hz9
  have hsz : H.size = sz + 2 := Nat.le_antisymm hz9 hz8
  refine lv_aload_n hx hb dX12_init_54 rfl (lv_at hl 0 rfl) ?_
  refine lv_sipush (v := 320) hx hb dX12_init_55 (by decide) ?_
  refine znewa (atype := .int) (a0 := (320, .inl (fun _ => 0))) (N' := 320) (b := sz + 2) hx hb (zh hts k0_48) (hK.2 1 _ rfl).2 hP hD hS hA (fun _ => rfl) (by decide) (by decide) (Nat.le_of_ble_eq_true rfl) (Nat.le_of_ble_eq_true rfl) (Nat.le_of_ble_eq_true rfl) hsz dX12_init_58 (fun H hsz hP hD hS => ?_)
  rw [zQ_push] at hP hD
  have hP : va_P D vwCl (zQ ws q0 (h0, .inr (11, [.int 0, .int 0, .ref sz, .ref (sz + 1), .null, .null, .null, .int 0, .null, .null, .int 0, .int 0, .int 0, .int 0, .int 0, .int 0, .int 0, .int 0, .int 0, .long 0, .int 0, .int 0, .null, .null, .null, .null, .null, .null, .null, .null, .int 0])) [(sz, .inl (E.2.1, 8, .inl (upd (upd (upd (upd (upd (upd (upd (upd (fun _ => 0) 0 (-1)) 1 (-1)) 2 (-1)) 3 (-1)) 4 (-1)) 5 (-1)) 6 (-1)) 7 (-1)))), (sz + 1, .inl (E.2.1, 8, .inl (fun _ => 0))), (sz + 2, .inl (E.2.1, 320, .inl (fun _ => 0)))]) H := hP
  have hD : va_D A (zQ ws q0 (h0, .inr (11, [.int 0, .int 0, .ref sz, .ref (sz + 1), .null, .null, .null, .int 0, .null, .null, .int 0, .int 0, .int 0, .int 0, .int 0, .int 0, .int 0, .int 0, .int 0, .long 0, .int 0, .int 0, .null, .null, .null, .null, .null, .null, .null, .null, .int 0])) [(sz, .inl (E.2.1, 8, .inl (upd (upd (upd (upd (upd (upd (upd (upd (fun _ => 0) 0 (-1)) 1 (-1)) 2 (-1)) 3 (-1)) 4 (-1)) 5 (-1)) 6 (-1)) 7 (-1)))), (sz + 1, .inl (E.2.1, 8, .inl (fun _ => 0))), (sz + 2, .inl (E.2.1, 320, .inl (fun _ => 0)))]) := hD
  have hsz : H.size = sz + 3 := hsz
  refine va_putF (D := D) (ci := 11) (v := .ref (sz + 2)) (ty := .array .int) (C := RX12) (T := TX12) (N := 31) hx hb hts (zi iX12) tyX12 tyX12_ok nmX12 hown hK hP hD hS q0 (zQ_get he _ _) rfl 4 (by decide) (zh hts k4_70) (fun _ h9 => h9) rfl hin rfl (by decide +kernel) rfl rfl (Nat.le_of_ble_eq_true rfl) dX12_init_60 (fun H locs hP hD hS => ?_)
  rw [zQ_set he] at hP hD
  have hP : va_P D vwCl (zQ ws q0 (h0, .inr (11, [.int 0, .int 0, .ref sz, .ref (sz + 1), .ref (sz + 2), .null, .null, .int 0, .null, .null, .int 0, .int 0, .int 0, .int 0, .int 0, .int 0, .int 0, .int 0, .int 0, .long 0, .int 0, .int 0, .null, .null, .null, .null, .null, .null, .null, .null, .int 0])) [(sz, .inl (E.2.1, 8, .inl (upd (upd (upd (upd (upd (upd (upd (upd (fun _ => 0) 0 (-1)) 1 (-1)) 2 (-1)) 3 (-1)) 4 (-1)) 5 (-1)) 6 (-1)) 7 (-1)))), (sz + 1, .inl (E.2.1, 8, .inl (fun _ => 0))), (sz + 2, .inl (E.2.1, 320, .inl (fun _ => 0)))]) H := hP
  have hD : va_D A (zQ ws q0 (h0, .inr (11, [.int 0, .int 0, .ref sz, .ref (sz + 1), .ref (sz + 2), .null, .null, .int 0, .null, .null, .int 0, .int 0, .int 0, .int 0, .int 0, .int 0, .int 0, .int 0, .int 0, .long 0, .int 0, .int 0, .null, .null, .null, .null, .null, .null, .null, .null, .int 0])) [(sz, .inl (E.2.1, 8, .inl (upd (upd (upd (upd (upd (upd (upd (upd (fun _ => 0) 0 (-1)) 1 (-1)) 2 (-1)) 3 (-1)) 4 (-1)) 5 (-1)) 6 (-1)) 7 (-1)))), (sz + 1, .inl (E.2.1, 8, .inl (fun _ => 0))), (sz + 2, .inl (E.2.1, 320, .inl (fun _ => 0)))]) := hD
  refine zsz (fun hz9 => ?_)
  have hz8 : sz + 2 < H.size := (hP (ws.length + 2) _ (zQ_getN rfl)).lt
  rw [hsz0] at hz9
  have hsz : H.size = sz + 3 := Nat.le_antisymm hz9 hz8
  refine lv_aload_n hx hb dX12_init_63 rfl (lv_at hl 0 rfl) ?_
  refine lv_bipush (v := 58) hx hb dX12_init_64 (by decide) ?_
  refine znewa (atype := .int) (a0 := (58, .inl (fun _ => 0))) (N' := 58) (b := sz + 3) hx hb (zh hts k0_48) (hK.2 1 _ rfl).2 hP hD hS hA (fun _ => rfl) (by decide) (by decide) (Nat.le_of_ble_eq_true rfl) (Nat.le_of_ble_eq_true rfl) (Nat.le_of_ble_eq_true rfl) hsz dX12_init_66 (fun H hsz hP hD hS => ?_)
  rw [zQ_push] at hP hD
  have hP : va_P D vwCl (zQ ws q0 (h0, .inr (11, [.int 0, .int 0, .ref sz, .ref (sz + 1), .ref (sz + 2), .null, .null, .int 0, .null, .null, .int 0, .int 0, .int 0, .int 0, .int 0, .int 0, .int 0, .int 0, .int 0, .long 0, .int 0, .int 0, .null, .null, .null, .null, .null, .null, .null, .null, .int 0])) [(sz, .inl (E.2.1, 8, .inl (upd (upd (upd (upd (upd (upd (upd (upd (fun _ => 0) 0 (-1)) 1 (-1)) 2 (-1)) 3 (-1)) 4 (-1)) 5 (-1)) 6 (-1)) 7 (-1)))), (sz + 1, .inl (E.2.1, 8, .inl (fun _ => 0))), (sz + 2, .inl (E.2.1, 320, .inl (fun _ => 0))), (sz + 3, .inl (E.2.1, 58, .inl (fun _ => 0)))]) H := hP
  have hD : va_D A (zQ ws q0 (h0, .inr (11, [.int 0, .int 0, .ref sz, .ref (sz + 1), .ref (sz + 2), .null, .null, .int 0, .null, .null, .int 0, .int 0, .int 0, .int 0, .int 0, .int 0, .int 0, .int 0, .int 0, .long 0, .int 0, .int 0, .null, .null, .null, .null, .null, .null, .null, .null, .int 0])) [(sz, .inl (E.2.1, 8, .inl (upd (upd (upd (upd (upd (upd (upd (upd (fun _ => 0) 0 (-1)) 1 (-1)) 2 (-1)) 3 (-1)) 4 (-1)) 5 (-1)) 6 (-1)) 7 (-1)))), (sz + 1, .inl (E.2.1, 8, .inl (fun _ => 0))), (sz + 2, .inl (E.2.1, 320, .inl (fun _ => 0))), (sz + 3, .inl (E.2.1, 58, .inl (fun _ => 0)))]) := hD
  have hsz : H.size = sz + 4 := hsz
  refine va_putF (D := D) (ci := 11) (v := .ref (sz + 3)) (ty := .array .int) (C := RX12) (T := TX12) (N := 31) hx hb hts (zi iX12) tyX12 tyX12_ok nmX12 hown hK hP hD hS q0 (zQ_get he _ _) rfl 5 (by decide) (zh hts k4_71) (fun _ h9 => h9) rfl hin rfl (by decide +kernel) rfl rfl (Nat.le_of_ble_eq_true rfl) dX12_init_68 (fun H locs hP hD hS => ?_)
  rw [zQ_set he] at hP hD
  have hP : va_P D vwCl (zQ ws q0 (h0, .inr (11, [.int 0, .int 0, .ref sz, .ref (sz + 1), .ref (sz + 2), .ref (sz + 3), .null, .int 0, .null, .null, .int 0, .int 0, .int 0, .int 0, .int 0, .int 0, .int 0, .int 0, .int 0, .long 0, .int 0, .int 0, .null, .null, .null, .null, .null, .null, .null, .null, .int 0])) [(sz, .inl (E.2.1, 8, .inl (upd (upd (upd (upd (upd (upd (upd (upd (fun _ => 0) 0 (-1)) 1 (-1)) 2 (-1)) 3 (-1)) 4 (-1)) 5 (-1)) 6 (-1)) 7 (-1)))), (sz + 1, .inl (E.2.1, 8, .inl (fun _ => 0))), (sz + 2, .inl (E.2.1, 320, .inl (fun _ => 0))), (sz + 3, .inl (E.2.1, 58, .inl (fun _ => 0)))]) H := hP
  have hD : va_D A (zQ ws q0 (h0, .inr (11, [.int 0, .int 0, .ref sz, .ref (sz + 1), .ref (sz + 2), .ref (sz + 3), .null, .int 0, .null, .null, .int 0, .int 0, .int 0, .int 0, .int 0, .int 0, .int 0, .int 0, .int 0, .long 0, .int 0, .int 0, .null, .null, .null, .null, .null, .null, .null, .null, .int 0])) [(sz, .inl (E.2.1, 8, .inl (upd (upd (upd (upd (upd (upd (upd (upd (fun _ => 0) 0 (-1)) 1 (-1)) 2 (-1)) 3 (-1)) 4 (-1)) 5 (-1)) 6 (-1)) 7 (-1)))), (sz + 1, .inl (E.2.1, 8, .inl (fun _ => 0))), (sz + 2, .inl (E.2.1, 320, .inl (fun _ => 0))), (sz + 3, .inl (E.2.1, 58, .inl (fun _ => 0)))]) := hD
  refine zsz (fun hz9 => ?_)
  have hz8 : sz + 3 < H.size := (hP (ws.length + 3) _ (zQ_getN rfl)).lt
  rw [hsz0] at hz9
  have hsz : H.size = sz + 4 := Nat.le_antisymm hz9 hz8
  refine lv_aload_n hx hb dX12_init_71 rfl (lv_at hl 0 rfl) ?_
  refine lv_bipush (v := 58) hx hb dX12_init_72 (by decide) ?_
  refine znewa (atype := .int) (a0 := (58, .inl (fun _ => 0))) (N' := 58) (b := sz + 4) hx hb (zh hts k0_48) (hK.2 1 _ rfl).2 hP hD hS hA (fun _ => rfl) (by decide) (by decide) (Nat.le_of_ble_eq_true rfl) (Nat.le_of_ble_eq_true rfl) (Nat.le_of_ble_eq_true rfl) hsz dX12_init_74 (fun H hsz hP hD hS => ?_)
  rw [zQ_push] at hP hD
  have hP : va_P D vwCl (zQ ws q0 (h0, .inr (11, [.int 0, .int 0, .ref sz, .ref (sz + 1), .ref (sz + 2), .ref (sz + 3), .null, .int 0, .null, .null, .int 0, .int 0, .int 0, .int 0, .int 0, .int 0, .int 0, .int 0, .int 0, .long 0, .int 0, .int 0, .null, .null, .null, .null, .null, .null, .null, .null, .int 0])) [(sz, .inl (E.2.1, 8, .inl (upd (upd (upd (upd (upd (upd (upd (upd (fun _ => 0) 0 (-1)) 1 (-1)) 2 (-1)) 3 (-1)) 4 (-1)) 5 (-1)) 6 (-1)) 7 (-1)))), (sz + 1, .inl (E.2.1, 8, .inl (fun _ => 0))), (sz + 2, .inl (E.2.1, 320, .inl (fun _ => 0))), (sz + 3, .inl (E.2.1, 58, .inl (fun _ => 0))), (sz + 4, .inl (E.2.1, 58, .inl (fun _ => 0)))]) H := hP
  have hD : va_D A (zQ ws q0 (h0, .inr (11, [.int 0, .int 0, .ref sz, .ref (sz + 1), .ref (sz + 2), .ref (sz + 3), .null, .int 0, .null, .null, .int 0, .int 0, .int 0, .int 0, .int 0, .int 0, .int 0, .int 0, .int 0, .long 0, .int 0, .int 0, .null, .null, .null, .null, .null, .null, .null, .null, .int 0])) [(sz, .inl (E.2.1, 8, .inl (upd (upd (upd (upd (upd (upd (upd (upd (fun _ => 0) 0 (-1)) 1 (-1)) 2 (-1)) 3 (-1)) 4 (-1)) 5 (-1)) 6 (-1)) 7 (-1)))), (sz + 1, .inl (E.2.1, 8, .inl (fun _ => 0))), (sz + 2, .inl (E.2.1, 320, .inl (fun _ => 0))), (sz + 3, .inl (E.2.1, 58, .inl (fun _ => 0))), (sz + 4, .inl (E.2.1, 58, .inl (fun _ => 0)))]) := hD
  have hsz : H.size = sz + 5 := hsz
  refine va_putF (D := D) (ci := 11) (v := .ref (sz + 4)) (ty := .array .int) (C := RX12) (T := TX12) (N := 31) hx hb hts (zi iX12) tyX12 tyX12_ok nmX12 hown hK hP hD hS q0 (zQ_get he _ _) rfl 6 (by decide) (zh hts k4_72) (fun _ h9 => h9) rfl hin rfl (by decide +kernel) rfl rfl (Nat.le_of_ble_eq_true rfl) dX12_init_76 (fun H locs hP hD hS => ?_)
  rw [zQ_set he] at hP hD
  have hP : va_P D vwCl (zQ ws q0 (h0, .inr (11, [.int 0, .int 0, .ref sz, .ref (sz + 1), .ref (sz + 2), .ref (sz + 3), .ref (sz + 4), .int 0, .null, .null, .int 0, .int 0, .int 0, .int 0, .int 0, .int 0, .int 0, .int 0, .int 0, .long 0, .int 0, .int 0, .null, .null, .null, .null, .null, .null, .null, .null, .int 0])) [(sz, .inl (E.2.1, 8, .inl (upd (upd (upd (upd (upd (upd (upd (upd (fun _ => 0) 0 (-1)) 1 (-1)) 2 (-1)) 3 (-1)) 4 (-1)) 5 (-1)) 6 (-1)) 7 (-1)))), (sz + 1, .inl (E.2.1, 8, .inl (fun _ => 0))), (sz + 2, .inl (E.2.1, 320, .inl (fun _ => 0))), (sz + 3, .inl (E.2.1, 58, .inl (fun _ => 0))), (sz + 4, .inl (E.2.1, 58, .inl (fun _ => 0)))]) H := hP
  have hD : va_D A (zQ ws q0 (h0, .inr (11, [.int 0, .int 0, .ref sz, .ref (sz + 1), .ref (sz + 2), .ref (sz + 3), .ref (sz + 4), .int 0, .null, .null, .int 0, .int 0, .int 0, .int 0, .int 0, .int 0, .int 0, .int 0, .int 0, .long 0, .int 0, .int 0, .null, .null, .null, .null, .null, .null, .null, .null, .int 0])) [(sz, .inl (E.2.1, 8, .inl (upd (upd (upd (upd (upd (upd (upd (upd (fun _ => 0) 0 (-1)) 1 (-1)) 2 (-1)) 3 (-1)) 4 (-1)) 5 (-1)) 6 (-1)) 7 (-1)))), (sz + 1, .inl (E.2.1, 8, .inl (fun _ => 0))), (sz + 2, .inl (E.2.1, 320, .inl (fun _ => 0))), (sz + 3, .inl (E.2.1, 58, .inl (fun _ => 0))), (sz + 4, .inl (E.2.1, 58, .inl (fun _ => 0)))]) := hD
  refine zsz (fun hz9 => ?_)
  have hz8 : sz + 4 < H.size := (hP (ws.length + 4) _ (zQ_getN rfl)).lt
  rw [hsz0] at hz9
  have hsz : H.size = sz + 5 := Nat.le_antisymm hz9 hz8
  refine lv_aload_n hx hb dX12_init_79 rfl (lv_at hl 0 rfl) ?_
  refine lv_bipush (v := 77) hx hb dX12_init_80 (by decide) ?_
  refine znewa (atype := .int) (a0 := (77, .inl (fun _ => 0))) (N' := 77) (b := sz + 5) hx hb (zh hts k0_48) (hK.2 1 _ rfl).2 hP hD hS hA (fun _ => rfl) (by decide) (by decide) (Nat.le_of_ble_eq_true rfl) (Nat.le_of_ble_eq_true rfl) (Nat.le_of_ble_eq_true rfl) hsz dX12_init_82 (fun H hsz hP hD hS => ?_)
  rw [zQ_push] at hP hD
  have hP : va_P D vwCl (zQ ws q0 (h0, .inr (11, [.int 0, .int 0, .ref sz, .ref (sz + 1), .ref (sz + 2), .ref (sz + 3), .ref (sz + 4), .int 0, .null, .null, .int 0, .int 0, .int 0, .int 0, .int 0, .int 0, .int 0, .int 0, .int 0, .long 0, .int 0, .int 0, .null, .null, .null, .null, .null, .null, .null, .null, .int 0])) [(sz, .inl (E.2.1, 8, .inl (upd (upd (upd (upd (upd (upd (upd (upd (fun _ => 0) 0 (-1)) 1 (-1)) 2 (-1)) 3 (-1)) 4 (-1)) 5 (-1)) 6 (-1)) 7 (-1)))), (sz + 1, .inl (E.2.1, 8, .inl (fun _ => 0))), (sz + 2, .inl (E.2.1, 320, .inl (fun _ => 0))), (sz + 3, .inl (E.2.1, 58, .inl (fun _ => 0))), (sz + 4, .inl (E.2.1, 58, .inl (fun _ => 0))), (sz + 5, .inl (E.2.1, 77, .inl (fun _ => 0)))]) H := hP
  have hD : va_D A (zQ ws q0 (h0, .inr (11, [.int 0, .int 0, .ref sz, .ref (sz + 1), .ref (sz + 2), .ref (sz + 3), .ref (sz + 4), .int 0, .null, .null, .int 0, .int 0, .int 0, .int 0, .int 0, .int 0, .int 0, .int 0, .int 0, .long 0, .int 0, .int 0, .null, .null, .null, .null, .null, .null, .null, .null, .int 0])) [(sz, .inl (E.2.1, 8, .inl (upd (upd (upd (upd (upd (upd (upd (upd (fun _ => 0) 0 (-1)) 1 (-1)) 2 (-1)) 3 (-1)) 4 (-1)) 5 (-1)) 6 (-1)) 7 (-1)))), (sz + 1, .inl (E.2.1, 8, .inl (fun _ => 0))), (sz + 2, .inl (E.2.1, 320, .inl (fun _ => 0))), (sz + 3, .inl (E.2.1, 58, .inl (fun _ => 0))), (sz + 4, .inl (E.2.1, 58, .inl (fun _ => 0))), (sz + 5, .inl (E.2.1, 77, .inl (fun _ => 0)))]) := hD
  have hsz : H.size = sz + 6 := hsz
  refine va_putF (D := D) (ci := 11) (v := .ref (sz + 5)) (ty := .array .int) (C := RX12) (T := TX12) (N := 31) hx hb hts (zi iX12) tyX12 tyX12_ok nmX12 hown hK hP hD hS q0 (zQ_get he _ _) rfl 8 (by decide) (zh hts k4_74) (fun _ h9 => h9) rfl hin rfl (by decide +kernel) rfl rfl (Nat.le_of_ble_eq_true rfl) dX12_init_84 (fun H locs hP hD hS => ?_)
  rw [zQ_set he] at hP hD
  have hP : va_P D vwCl (zQ ws q0 (h0, .inr (11, [.int 0, .int 0, .ref sz, .ref (sz + 1), .ref (sz + 2), .ref (sz + 3), .ref (sz + 4), .int 0, .ref (sz + 5), .null, .int 0, .int 0, .int 0, .int 0, .int 0, .int 0, .int 0, .int 0, .int 0, .long 0, .int 0, .int 0, .null, .null, .null, .null, .null, .null, .null, .null, .int 0])) [(sz, .inl (E.2.1, 8, .inl (upd (upd (upd (upd (upd (upd (upd (upd (fun _ => 0) 0 (-1)) 1 (-1)) 2 (-1)) 3 (-1)) 4 (-1)) 5 (-1)) 6 (-1)) 7 (-1)))), (sz + 1, .inl (E.2.1, 8, .inl (fun _ => 0))), (sz + 2, .inl (E.2.1, 320, .inl (fun _ => 0))), (sz + 3, .inl (E.2.1, 58, .inl (fun _ => 0))), (sz + 4, .inl (E.2.1, 58, .inl (fun _ => 0))), (sz + 5, .inl (E.2.1, 77, .inl (fun _ => 0)))]) H := hP
  have hD : va_D A (zQ ws q0 (h0, .inr (11, [.int 0, .int 0, .ref sz, .ref (sz + 1), .ref (sz + 2), .ref (sz + 3), .ref (sz + 4), .int 0, .ref (sz + 5), .null, .int 0, .int 0, .int 0, .int 0, .int 0, .int 0, .int 0, .int 0, .int 0, .long 0, .int 0, .int 0, .null, .null, .null, .null, .null, .null, .null, .null, .int 0])) [(sz, .inl (E.2.1, 8, .inl (upd (upd (upd (upd (upd (upd (upd (upd (fun _ => 0) 0 (-1)) 1 (-1)) 2 (-1)) 3 (-1)) 4 (-1)) 5 (-1)) 6 (-1)) 7 (-1)))), (sz + 1, .inl (E.2.1, 8, .inl (fun _ => 0))), (sz + 2, .inl (E.2.1, 320, .inl (fun _ => 0))), (sz + 3, .inl (E.2.1, 58, .inl (fun _ => 0))), (sz + 4, .inl (E.2.1, 58, .inl (fun _ => 0))), (sz + 5, .inl (E.2.1, 77, .inl (fun _ => 0)))]) := hD
  refine zsz (fun hz9 => ?_)
  have hz8 : sz + 5 < H.size := (hP (ws.length + 5) _ (zQ_getN rfl)).lt
  rw [hsz0] at hz9
  have hsz : H.size = sz + 6 := Nat.le_antisymm hz9 hz8
  refine lv_aload_n hx hb dX12_init_87 rfl (lv_at hl 0 rfl) ?_
  refine lv_sipush (v := 500) hx hb dX12_init_88 (by decide) ?_
  refine znewa (atype := .int) (a0 := (500, .inl (fun _ => 0))) (N' := 500) (b := sz + 6) hx hb (zh hts k0_48) (hK.2 1 _ rfl).2 hP hD hS hA (fun _ => rfl) (by decide) (by decide) (Nat.le_of_ble_eq_true rfl) (Nat.le_of_ble_eq_true rfl) (Nat.le_of_ble_eq_true rfl) hsz dX12_init_91 (fun H hsz hP hD hS => ?_)
  rw [zQ_push] at hP hD
  have hP : va_P D vwCl (zQ ws q0 (h0, .inr (11, [.int 0, .int 0, .ref sz, .ref (sz + 1), .ref (sz + 2), .ref (sz + 3), .ref (sz + 4), .int 0, .ref (sz + 5), .null, .int 0, .int 0, .int 0, .int 0, .int 0, .int 0, .int 0, .int 0, .int 0, .long 0, .int 0, .int 0, .null, .null, .null, .null, .null, .null, .null, .null, .int 0])) [(sz, .inl (E.2.1, 8, .inl (upd (upd (upd (upd (upd (upd (upd (upd (fun _ => 0) 0 (-1)) 1 (-1)) 2 (-1)) 3 (-1)) 4 (-1)) 5 (-1)) 6 (-1)) 7 (-1)))), (sz + 1, .inl (E.2.1, 8, .inl (fun _ => 0))), (sz + 2, .inl (E.2.1, 320, .inl (fun _ => 0))), (sz + 3, .inl (E.2.1, 58, .inl (fun _ => 0))), (sz + 4, .inl (E.2.1, 58, .inl (fun _ => 0))), (sz + 5, .inl (E.2.1, 77, .inl (fun _ => 0))), (sz + 6, .inl (E.2.1, 500, .inl (fun _ => 0)))]) H := hP
  have hD : va_D A (zQ ws q0 (h0, .inr (11, [.int 0, .int 0, .ref sz, .ref (sz + 1), .ref (sz + 2), .ref (sz + 3), .ref (sz + 4), .int 0, .ref (sz + 5), .null, .int 0, .int 0, .int 0, .int 0, .int 0, .int 0, .int 0, .int 0, .int 0, .long 0, .int 0, .int 0, .null, .null, .null, .null, .null, .null, .null, .null, .int 0])) [(sz, .inl (E.2.1, 8, .inl (upd (upd (upd (upd (upd (upd (upd (upd (fun _ => 0) 0 (-1)) 1 (-1)) 2 (-1)) 3 (-1)) 4 (-1)) 5 (-1)) 6 (-1)) 7 (-1)))), (sz + 1, .inl (E.2.1, 8, .inl (fun _ => 0))), (sz + 2, .inl (E.2.1, 320, .inl (fun _ => 0))), (sz + 3, .inl (E.2.1, 58, .inl (fun _ => 0))), (sz + 4, .inl (E.2.1, 58, .inl (fun _ => 0))), (sz + 5, .inl (E.2.1, 77, .inl (fun _ => 0))), (sz + 6, .inl (E.2.1, 500, .inl (fun _ => 0)))]) := hD
  have hsz : H.size = sz + 7 := hsz
  refine va_putF (D := D) (ci := 11) (v := .ref (sz + 6)) (ty := .array .int) (C := RX12) (T := TX12) (N := 31) hx hb hts (zi iX12) tyX12 tyX12_ok nmX12 hown hK hP hD hS q0 (zQ_get he _ _) rfl 9 (by decide) (zh hts k4_75) (fun _ h9 => h9) rfl hin rfl (by decide +kernel) rfl rfl (Nat.le_of_ble_eq_true rfl) dX12_init_93 (fun H locs hP hD hS => ?_)
  rw [zQ_set he] at hP hD
  have hP : va_P D vwCl (zQ ws q0 (h0, .inr (11, [.int 0, .int 0, .ref sz, .ref (sz + 1), .ref (sz + 2), .ref (sz + 3), .ref (sz + 4), .int 0, .ref (sz + 5), .ref (sz + 6), .int 0, .int 0, .int 0, .int 0, .int 0, .int 0, .int 0, .int 0, .int 0, .long 0, .int 0, .int 0, .null, .null, .null, .null, .null, .null, .null, .null, .int 0])) [(sz, .inl (E.2.1, 8, .inl (upd (upd (upd (upd (upd (upd (upd (upd (fun _ => 0) 0 (-1)) 1 (-1)) 2 (-1)) 3 (-1)) 4 (-1)) 5 (-1)) 6 (-1)) 7 (-1)))), (sz + 1, .inl (E.2.1, 8, .inl (fun _ => 0))), (sz + 2, .inl (E.2.1, 320, .inl (fun _ => 0))), (sz + 3, .inl (E.2.1, 58, .inl (fun _ => 0))), (sz + 4, .inl (E.2.1, 58, .inl (fun _ => 0))), (sz + 5, .inl (E.2.1, 77, .inl (fun _ => 0))), (sz + 6, .inl (E.2.1, 500, .inl (fun _ => 0)))]) H := hP
  have hD : va_D A (zQ ws q0 (h0, .inr (11, [.int 0, .int 0, .ref sz, .ref (sz + 1), .ref (sz + 2), .ref (sz + 3), .ref (sz + 4), .int 0, .ref (sz + 5), .ref (sz + 6), .int 0, .int 0, .int 0, .int 0, .int 0, .int 0, .int 0, .int 0, .int 0, .long 0, .int 0, .int 0, .null, .null, .null, .null, .null, .null, .null, .null, .int 0])) [(sz, .inl (E.2.1, 8, .inl (upd (upd (upd (upd (upd (upd (upd (upd (fun _ => 0) 0 (-1)) 1 (-1)) 2 (-1)) 3 (-1)) 4 (-1)) 5 (-1)) 6 (-1)) 7 (-1)))), (sz + 1, .inl (E.2.1, 8, .inl (fun _ => 0))), (sz + 2, .inl (E.2.1, 320, .inl (fun _ => 0))), (sz + 3, .inl (E.2.1, 58, .inl (fun _ => 0))), (sz + 4, .inl (E.2.1, 58, .inl (fun _ => 0))), (sz + 5, .inl (E.2.1, 77, .inl (fun _ => 0))), (sz + 6, .inl (E.2.1, 500, .inl (fun _ => 0)))]) := hD
  refine zsz (fun hz9 => ?_)
  have hz8 : sz + 6 < H.size := (hP (ws.length + 6) _ (zQ_getN rfl)).lt
  rw [hsz0] at hz9
  have hsz : H.size = sz + 7 := Nat.le_antisymm hz9 hz8
  refine lv_aload_n hx hb dX12_init_96 rfl (lv_at hl 0 rfl) ?_
  refine lv_bipush (v := 6) hx hb dX12_init_97 (by decide) ?_
  refine znewa (atype := .int) (a0 := (6, .inl (fun _ => 0))) (N' := 6) (b := sz + 7) hx hb (zh hts k0_48) (hK.2 1 _ rfl).2 hP hD hS hA (fun _ => rfl) (by decide) (by decide) (Nat.le_of_ble_eq_true rfl) (Nat.le_of_ble_eq_true rfl) (Nat.le_of_ble_eq_true rfl) hsz dX12_init_99 (fun H hsz hP hD hS => ?_)
  rw [zQ_push] at hP hD
  have hP : va_P D vwCl (zQ ws q0 (h0, .inr (11, [.int 0, .int 0, .ref sz, .ref (sz + 1), .ref (sz + 2), .ref (sz + 3), .ref (sz + 4), .int 0, .ref (sz + 5), .ref (sz + 6), .int 0, .int 0, .int 0, .int 0, .int 0, .int 0, .int 0, .int 0, .int 0, .long 0, .int 0, .int 0, .null, .null, .null, .null, .null, .null, .null, .null, .int 0])) [(sz, .inl (E.2.1, 8, .inl (upd (upd (upd (upd (upd (upd (upd (upd (fun _ => 0) 0 (-1)) 1 (-1)) 2 (-1)) 3 (-1)) 4 (-1)) 5 (-1)) 6 (-1)) 7 (-1)))), (sz + 1, .inl (E.2.1, 8, .inl (fun _ => 0))), (sz + 2, .inl (E.2.1, 320, .inl (fun _ => 0))), (sz + 3, .inl (E.2.1, 58, .inl (fun _ => 0))), (sz + 4, .inl (E.2.1, 58, .inl (fun _ => 0))), (sz + 5, .inl (E.2.1, 77, .inl (fun _ => 0))), (sz + 6, .inl (E.2.1, 500, .inl (fun _ => 0))), (sz + 7, .inl (E.2.1, 6, .inl (fun _ => 0)))]) H := hP
  have hD : va_D A (zQ ws q0 (h0, .inr (11, [.int 0, .int 0, .ref sz, .ref (sz + 1), .ref (sz + 2), .ref (sz + 3), .ref (sz + 4), .int 0, .ref (sz + 5), .ref (sz + 6), .int 0, .int 0, .int 0, .int 0, .int 0, .int 0, .int 0, .int 0, .int 0, .long 0, .int 0, .int 0, .null, .null, .null, .null, .null, .null, .null, .null, .int 0])) [(sz, .inl (E.2.1, 8, .inl (upd (upd (upd (upd (upd (upd (upd (upd (fun _ => 0) 0 (-1)) 1 (-1)) 2 (-1)) 3 (-1)) 4 (-1)) 5 (-1)) 6 (-1)) 7 (-1)))), (sz + 1, .inl (E.2.1, 8, .inl (fun _ => 0))), (sz + 2, .inl (E.2.1, 320, .inl (fun _ => 0))), (sz + 3, .inl (E.2.1, 58, .inl (fun _ => 0))), (sz + 4, .inl (E.2.1, 58, .inl (fun _ => 0))), (sz + 5, .inl (E.2.1, 77, .inl (fun _ => 0))), (sz + 6, .inl (E.2.1, 500, .inl (fun _ => 0))), (sz + 7, .inl (E.2.1, 6, .inl (fun _ => 0)))]) := hD
  have hsz : H.size = sz + 8 := hsz
  refine va_putF (D := D) (ci := 11) (v := .ref (sz + 7)) (ty := .array .int) (C := RX12) (T := TX12) (N := 31) hx hb hts (zi iX12) tyX12 tyX12_ok nmX12 hown hK hP hD hS q0 (zQ_get he _ _) rfl 22 (by decide) (zh hts k4_88) (fun _ h9 => h9) rfl hin rfl (by decide +kernel) rfl rfl (Nat.le_of_ble_eq_true rfl) dX12_init_101 (fun H locs hP hD hS => ?_)
  rw [zQ_set he] at hP hD
  have hP : va_P D vwCl (zQ ws q0 (h0, .inr (11, [.int 0, .int 0, .ref sz, .ref (sz + 1), .ref (sz + 2), .ref (sz + 3), .ref (sz + 4), .int 0, .ref (sz + 5), .ref (sz + 6), .int 0, .int 0, .int 0, .int 0, .int 0, .int 0, .int 0, .int 0, .int 0, .long 0, .int 0, .int 0, .ref (sz + 7), .null, .null, .null, .null, .null, .null, .null, .int 0])) [(sz, .inl (E.2.1, 8, .inl (upd (upd (upd (upd (upd (upd (upd (upd (fun _ => 0) 0 (-1)) 1 (-1)) 2 (-1)) 3 (-1)) 4 (-1)) 5 (-1)) 6 (-1)) 7 (-1)))), (sz + 1, .inl (E.2.1, 8, .inl (fun _ => 0))), (sz + 2, .inl (E.2.1, 320, .inl (fun _ => 0))), (sz + 3, .inl (E.2.1, 58, .inl (fun _ => 0))), (sz + 4, .inl (E.2.1, 58, .inl (fun _ => 0))), (sz + 5, .inl (E.2.1, 77, .inl (fun _ => 0))), (sz + 6, .inl (E.2.1, 500, .inl (fun _ => 0))), (sz + 7, .inl (E.2.1, 6, .inl (fun _ => 0)))]) H := hP
  have hD : va_D A (zQ ws q0 (h0, .inr (11, [.int 0, .int 0, .ref sz, .ref (sz + 1), .ref (sz + 2), .ref (sz + 3), .ref (sz + 4), .int 0, .ref (sz + 5), .ref (sz + 6), .int 0, .int 0, .int 0, .int 0, .int 0, .int 0, .int 0, .int 0, .int 0, .long 0, .int 0, .int 0, .ref (sz + 7), .null, .null, .null, .null, .null, .null, .null, .int 0])) [(sz, .inl (E.2.1, 8, .inl (upd (upd (upd (upd (upd (upd (upd (upd (fun _ => 0) 0 (-1)) 1 (-1)) 2 (-1)) 3 (-1)) 4 (-1)) 5 (-1)) 6 (-1)) 7 (-1)))), (sz + 1, .inl (E.2.1, 8, .inl (fun _ => 0))), (sz + 2, .inl (E.2.1, 320, .inl (fun _ => 0))), (sz + 3, .inl (E.2.1, 58, .inl (fun _ => 0))), (sz + 4, .inl (E.2.1, 58, .inl (fun _ => 0))), (sz + 5, .inl (E.2.1, 77, .inl (fun _ => 0))), (sz + 6, .inl (E.2.1, 500, .inl (fun _ => 0))), (sz + 7, .inl (E.2.1, 6, .inl (fun _ => 0)))]) := hD
  refine zsz (fun hz9 => ?_)
  have hz8 : sz + 7 < H.size := (hP (ws.length + 7) _ (zQ_getN rfl)).lt
  rw [hsz0] at hz9
  have hsz : H.size = sz + 8 := Nat.le_antisymm hz9 hz8
  refine lv_aload_n hx hb dX12_init_104 rfl (lv_at hl 0 rfl) ?_
  refine lv_bipush (v := 6) hx hb dX12_init_105 (by decide) ?_
  refine znewa (atype := .int) (a0 := (6, .inl (fun _ => 0))) (N' := 6) (b := sz + 8) hx hb (zh hts k0_48) (hK.2 1 _ rfl).2 hP hD hS hA (fun _ => rfl) (by decide) (by decide) (Nat.le_of_ble_eq_true rfl) (Nat.le_of_ble_eq_true rfl) (Nat.le_of_ble_eq_true rfl) hsz dX12_init_107 (fun H hsz hP hD hS => ?_)
  rw [zQ_push] at hP hD
  have hP : va_P D vwCl (zQ ws q0 (h0, .inr (11, [.int 0, .int 0, .ref sz, .ref (sz + 1), .ref (sz + 2), .ref (sz + 3), .ref (sz + 4), .int 0, .ref (sz + 5), .ref (sz + 6), .int 0, .int 0, .int 0, .int 0, .int 0, .int 0, .int 0, .int 0, .int 0, .long 0, .int 0, .int 0, .ref (sz + 7), .null, .null, .null, .null, .null, .null, .null, .int 0])) [(sz, .inl (E.2.1, 8, .inl (upd (upd (upd (upd (upd (upd (upd (upd (fun _ => 0) 0 (-1)) 1 (-1)) 2 (-1)) 3 (-1)) 4 (-1)) 5 (-1)) 6 (-1)) 7 (-1)))), (sz + 1, .inl (E.2.1, 8, .inl (fun _ => 0))), (sz + 2, .inl (E.2.1, 320, .inl (fun _ => 0))), (sz + 3, .inl (E.2.1, 58, .inl (fun _ => 0))), (sz + 4, .inl (E.2.1, 58, .inl (fun _ => 0))), (sz + 5, .inl (E.2.1, 77, .inl (fun _ => 0))), (sz + 6, .inl (E.2.1, 500, .inl (fun _ => 0))), (sz + 7, .inl (E.2.1, 6, .inl (fun _ => 0))), (sz + 8, .inl (E.2.1, 6, .inl (fun _ => 0)))]) H := hP
  have hD : va_D A (zQ ws q0 (h0, .inr (11, [.int 0, .int 0, .ref sz, .ref (sz + 1), .ref (sz + 2), .ref (sz + 3), .ref (sz + 4), .int 0, .ref (sz + 5), .ref (sz + 6), .int 0, .int 0, .int 0, .int 0, .int 0, .int 0, .int 0, .int 0, .int 0, .long 0, .int 0, .int 0, .ref (sz + 7), .null, .null, .null, .null, .null, .null, .null, .int 0])) [(sz, .inl (E.2.1, 8, .inl (upd (upd (upd (upd (upd (upd (upd (upd (fun _ => 0) 0 (-1)) 1 (-1)) 2 (-1)) 3 (-1)) 4 (-1)) 5 (-1)) 6 (-1)) 7 (-1)))), (sz + 1, .inl (E.2.1, 8, .inl (fun _ => 0))), (sz + 2, .inl (E.2.1, 320, .inl (fun _ => 0))), (sz + 3, .inl (E.2.1, 58, .inl (fun _ => 0))), (sz + 4, .inl (E.2.1, 58, .inl (fun _ => 0))), (sz + 5, .inl (E.2.1, 77, .inl (fun _ => 0))), (sz + 6, .inl (E.2.1, 500, .inl (fun _ => 0))), (sz + 7, .inl (E.2.1, 6, .inl (fun _ => 0))), (sz + 8, .inl (E.2.1, 6, .inl (fun _ => 0)))]) := hD
  have hsz : H.size = sz + 9 := hsz
  refine va_putF (D := D) (ci := 11) (v := .ref (sz + 8)) (ty := .array .int) (C := RX12) (T := TX12) (N := 31) hx hb hts (zi iX12) tyX12 tyX12_ok nmX12 hown hK hP hD hS q0 (zQ_get he _ _) rfl 23 (by decide) (zh hts k4_89) (fun _ h9 => h9) rfl hin rfl (by decide +kernel) rfl rfl (Nat.le_of_ble_eq_true rfl) dX12_init_109 (fun H locs hP hD hS => ?_)
  rw [zQ_set he] at hP hD
  have hP : va_P D vwCl (zQ ws q0 (h0, .inr (11, [.int 0, .int 0, .ref sz, .ref (sz + 1), .ref (sz + 2), .ref (sz + 3), .ref (sz + 4), .int 0, .ref (sz + 5), .ref (sz + 6), .int 0, .int 0, .int 0, .int 0, .int 0, .int 0, .int 0, .int 0, .int 0, .long 0, .int 0, .int 0, .ref (sz + 7), .ref (sz + 8), .null, .null, .null, .null, .null, .null, .int 0])) [(sz, .inl (E.2.1, 8, .inl (upd (upd (upd (upd (upd (upd (upd (upd (fun _ => 0) 0 (-1)) 1 (-1)) 2 (-1)) 3 (-1)) 4 (-1)) 5 (-1)) 6 (-1)) 7 (-1)))), (sz + 1, .inl (E.2.1, 8, .inl (fun _ => 0))), (sz + 2, .inl (E.2.1, 320, .inl (fun _ => 0))), (sz + 3, .inl (E.2.1, 58, .inl (fun _ => 0))), (sz + 4, .inl (E.2.1, 58, .inl (fun _ => 0))), (sz + 5, .inl (E.2.1, 77, .inl (fun _ => 0))), (sz + 6, .inl (E.2.1, 500, .inl (fun _ => 0))), (sz + 7, .inl (E.2.1, 6, .inl (fun _ => 0))), (sz + 8, .inl (E.2.1, 6, .inl (fun _ => 0)))]) H := hP
  have hD : va_D A (zQ ws q0 (h0, .inr (11, [.int 0, .int 0, .ref sz, .ref (sz + 1), .ref (sz + 2), .ref (sz + 3), .ref (sz + 4), .int 0, .ref (sz + 5), .ref (sz + 6), .int 0, .int 0, .int 0, .int 0, .int 0, .int 0, .int 0, .int 0, .int 0, .long 0, .int 0, .int 0, .ref (sz + 7), .ref (sz + 8), .null, .null, .null, .null, .null, .null, .int 0])) [(sz, .inl (E.2.1, 8, .inl (upd (upd (upd (upd (upd (upd (upd (upd (fun _ => 0) 0 (-1)) 1 (-1)) 2 (-1)) 3 (-1)) 4 (-1)) 5 (-1)) 6 (-1)) 7 (-1)))), (sz + 1, .inl (E.2.1, 8, .inl (fun _ => 0))), (sz + 2, .inl (E.2.1, 320, .inl (fun _ => 0))), (sz + 3, .inl (E.2.1, 58, .inl (fun _ => 0))), (sz + 4, .inl (E.2.1, 58, .inl (fun _ => 0))), (sz + 5, .inl (E.2.1, 77, .inl (fun _ => 0))), (sz + 6, .inl (E.2.1, 500, .inl (fun _ => 0))), (sz + 7, .inl (E.2.1, 6, .inl (fun _ => 0))), (sz + 8, .inl (E.2.1, 6, .inl (fun _ => 0)))]) := hD
  refine zsz (fun hz9 => ?_)
  have hz8 : sz + 8 < H.size := (hP (ws.length + 8) _ (zQ_getN rfl)).lt
  rw [hsz0] at hz9
  have hsz : H.size = sz + 9 := Nat.le_antisymm hz9 hz8
  refine lv_aload_n hx hb dX12_init_112 rfl (lv_at hl 0 rfl) ?_
  refine lv_bipush (v := 6) hx hb dX12_init_113 (by decide) ?_
  refine znewa (atype := .int) (a0 := (6, .inl (fun _ => 0))) (N' := 6) (b := sz + 9) hx hb (zh hts k0_48) (hK.2 1 _ rfl).2 hP hD hS hA (fun _ => rfl) (by decide) (by decide) (Nat.le_of_ble_eq_true rfl) (Nat.le_of_ble_eq_true rfl) (Nat.le_of_ble_eq_true rfl) hsz dX12_init_115 (fun H hsz hP hD hS => ?_)
  rw [zQ_push] at hP hD
  have hP : va_P D vwCl (zQ ws q0 (h0, .inr (11, [.int 0, .int 0, .ref sz, .ref (sz + 1), .ref (sz + 2), .ref (sz + 3), .ref (sz + 4), .int 0, .ref (sz + 5), .ref (sz + 6), .int 0, .int 0, .int 0, .int 0, .int 0, .int 0, .int 0, .int 0, .int 0, .long 0, .int 0, .int 0, .ref (sz + 7), .ref (sz + 8), .null, .null, .null, .null, .null, .null, .int 0])) [(sz, .inl (E.2.1, 8, .inl (upd (upd (upd (upd (upd (upd (upd (upd (fun _ => 0) 0 (-1)) 1 (-1)) 2 (-1)) 3 (-1)) 4 (-1)) 5 (-1)) 6 (-1)) 7 (-1)))), (sz + 1, .inl (E.2.1, 8, .inl (fun _ => 0))), (sz + 2, .inl (E.2.1, 320, .inl (fun _ => 0))), (sz + 3, .inl (E.2.1, 58, .inl (fun _ => 0))), (sz + 4, .inl (E.2.1, 58, .inl (fun _ => 0))), (sz + 5, .inl (E.2.1, 77, .inl (fun _ => 0))), (sz + 6, .inl (E.2.1, 500, .inl (fun _ => 0))), (sz + 7, .inl (E.2.1, 6, .inl (fun _ => 0))), (sz + 8, .inl (E.2.1, 6, .inl (fun _ => 0))), (sz + 9, .inl (E.2.1, 6, .inl (fun _ => 0)))]) H := hP
  have hD : va_D A (zQ ws q0 (h0, .inr (11, [.int 0, .int 0, .ref sz, .ref (sz + 1), .ref (sz + 2), .ref (sz + 3), .ref (sz + 4), .int 0, .ref (sz + 5), .ref (sz + 6), .int 0, .int 0, .int 0, .int 0, .int 0, .int 0, .int 0, .int 0, .int 0, .long 0, .int 0, .int 0, .ref (sz + 7), .ref (sz + 8), .null, .null, .null, .null, .null, .null, .int 0])) [(sz, .inl (E.2.1, 8, .inl (upd (upd (upd (upd (upd (upd (upd (upd (fun _ => 0) 0 (-1)) 1 (-1)) 2 (-1)) 3 (-1)) 4 (-1)) 5 (-1)) 6 (-1)) 7 (-1)))), (sz + 1, .inl (E.2.1, 8, .inl (fun _ => 0))), (sz + 2, .inl (E.2.1, 320, .inl (fun _ => 0))), (sz + 3, .inl (E.2.1, 58, .inl (fun _ => 0))), (sz + 4, .inl (E.2.1, 58, .inl (fun _ => 0))), (sz + 5, .inl (E.2.1, 77, .inl (fun _ => 0))), (sz + 6, .inl (E.2.1, 500, .inl (fun _ => 0))), (sz + 7, .inl (E.2.1, 6, .inl (fun _ => 0))), (sz + 8, .inl (E.2.1, 6, .inl (fun _ => 0))), (sz + 9, .inl (E.2.1, 6, .inl (fun _ => 0)))]) := hD
  have hsz : H.size = sz + 10 := hsz
  refine va_putF (D := D) (ci := 11) (v := .ref (sz + 9)) (ty := .array .int) (C := RX12) (T := TX12) (N := 31) hx hb hts (zi iX12) tyX12 tyX12_ok nmX12 hown hK hP hD hS q0 (zQ_get he _ _) rfl 24 (by decide) (zh hts k4_90) (fun _ h9 => h9) rfl hin rfl (by decide +kernel) rfl rfl (Nat.le_of_ble_eq_true rfl) dX12_init_117 (fun H locs hP hD hS => ?_)
  rw [zQ_set he] at hP hD
  have hP : va_P D vwCl (zQ ws q0 (h0, .inr (11, [.int 0, .int 0, .ref sz, .ref (sz + 1), .ref (sz + 2), .ref (sz + 3), .ref (sz + 4), .int 0, .ref (sz + 5), .ref (sz + 6), .int 0, .int 0, .int 0, .int 0, .int 0, .int 0, .int 0, .int 0, .int 0, .long 0, .int 0, .int 0, .ref (sz + 7), .ref (sz + 8), .ref (sz + 9), .null, .null, .null, .null, .null, .int 0])) [(sz, .inl (E.2.1, 8, .inl (upd (upd (upd (upd (upd (upd (upd (upd (fun _ => 0) 0 (-1)) 1 (-1)) 2 (-1)) 3 (-1)) 4 (-1)) 5 (-1)) 6 (-1)) 7 (-1)))), (sz + 1, .inl (E.2.1, 8, .inl (fun _ => 0))), (sz + 2, .inl (E.2.1, 320, .inl (fun _ => 0))), (sz + 3, .inl (E.2.1, 58, .inl (fun _ => 0))), (sz + 4, .inl (E.2.1, 58, .inl (fun _ => 0))), (sz + 5, .inl (E.2.1, 77, .inl (fun _ => 0))), (sz + 6, .inl (E.2.1, 500, .inl (fun _ => 0))), (sz + 7, .inl (E.2.1, 6, .inl (fun _ => 0))), (sz + 8, .inl (E.2.1, 6, .inl (fun _ => 0))), (sz + 9, .inl (E.2.1, 6, .inl (fun _ => 0)))]) H := hP
  have hD : va_D A (zQ ws q0 (h0, .inr (11, [.int 0, .int 0, .ref sz, .ref (sz + 1), .ref (sz + 2), .ref (sz + 3), .ref (sz + 4), .int 0, .ref (sz + 5), .ref (sz + 6), .int 0, .int 0, .int 0, .int 0, .int 0, .int 0, .int 0, .int 0, .int 0, .long 0, .int 0, .int 0, .ref (sz + 7), .ref (sz + 8), .ref (sz + 9), .null, .null, .null, .null, .null, .int 0])) [(sz, .inl (E.2.1, 8, .inl (upd (upd (upd (upd (upd (upd (upd (upd (fun _ => 0) 0 (-1)) 1 (-1)) 2 (-1)) 3 (-1)) 4 (-1)) 5 (-1)) 6 (-1)) 7 (-1)))), (sz + 1, .inl (E.2.1, 8, .inl (fun _ => 0))), (sz + 2, .inl (E.2.1, 320, .inl (fun _ => 0))), (sz + 3, .inl (E.2.1, 58, .inl (fun _ => 0))), (sz + 4, .inl (E.2.1, 58, .inl (fun _ => 0))), (sz + 5, .inl (E.2.1, 77, .inl (fun _ => 0))), (sz + 6, .inl (E.2.1, 500, .inl (fun _ => 0))), (sz + 7, .inl (E.2.1, 6, .inl (fun _ => 0))), (sz + 8, .inl (E.2.1, 6, .inl (fun _ => 0))), (sz + 9, .inl (E.2.1, 6, .inl (fun _ => 0)))]) := hD
  refine zsz (fun hz9 => ?_)
  have hz8 : sz + 9 < H.size := (hP (ws.length + 9) _ (zQ_getN rfl)).lt
  rw [hsz0] at hz9
  have hsz : H.size = sz + 10 := Nat.le_antisymm hz9 hz8
  refine lv_aload_n hx hb dX12_init_120 rfl (lv_at hl 0 rfl) ?_
  refine lv_bipush (v := 77) hx hb dX12_init_121 (by decide) ?_
  refine znewa (atype := .int) (a0 := (77, .inl (fun _ => 0))) (N' := 77) (b := sz + 10) hx hb (zh hts k0_48) (hK.2 1 _ rfl).2 hP hD hS hA (fun _ => rfl) (by decide) (by decide) (Nat.le_of_ble_eq_true rfl) (Nat.le_of_ble_eq_true rfl) (Nat.le_of_ble_eq_true rfl) hsz dX12_init_123 (fun H hsz hP hD hS => ?_)
  rw [zQ_push] at hP hD
  have hP : va_P D vwCl (zQ ws q0 (h0, .inr (11, [.int 0, .int 0, .ref sz, .ref (sz + 1), .ref (sz + 2), .ref (sz + 3), .ref (sz + 4), .int 0, .ref (sz + 5), .ref (sz + 6), .int 0, .int 0, .int 0, .int 0, .int 0, .int 0, .int 0, .int 0, .int 0, .long 0, .int 0, .int 0, .ref (sz + 7), .ref (sz + 8), .ref (sz + 9), .null, .null, .null, .null, .null, .int 0])) [(sz, .inl (E.2.1, 8, .inl (upd (upd (upd (upd (upd (upd (upd (upd (fun _ => 0) 0 (-1)) 1 (-1)) 2 (-1)) 3 (-1)) 4 (-1)) 5 (-1)) 6 (-1)) 7 (-1)))), (sz + 1, .inl (E.2.1, 8, .inl (fun _ => 0))), (sz + 2, .inl (E.2.1, 320, .inl (fun _ => 0))), (sz + 3, .inl (E.2.1, 58, .inl (fun _ => 0))), (sz + 4, .inl (E.2.1, 58, .inl (fun _ => 0))), (sz + 5, .inl (E.2.1, 77, .inl (fun _ => 0))), (sz + 6, .inl (E.2.1, 500, .inl (fun _ => 0))), (sz + 7, .inl (E.2.1, 6, .inl (fun _ => 0))), (sz + 8, .inl (E.2.1, 6, .inl (fun _ => 0))), (sz + 9, .inl (E.2.1, 6, .inl (fun _ => 0))), (sz + 10, .inl (E.2.1, 77, .inl (fun _ => 0)))]) H := hP
  have hD : va_D A (zQ ws q0 (h0, .inr (11, [.int 0, .int 0, .ref sz, .ref (sz + 1), .ref (sz + 2), .ref (sz + 3), .ref (sz + 4), .int 0, .ref (sz + 5), .ref (sz + 6), .int 0, .int 0, .int 0, .int 0, .int 0, .int 0, .int 0, .int 0, .int 0, .long 0, .int 0, .int 0, .ref (sz + 7), .ref (sz + 8), .ref (sz + 9), .null, .null, .null, .null, .null, .int 0])) [(sz, .inl (E.2.1, 8, .inl (upd (upd (upd (upd (upd (upd (upd (upd (fun _ => 0) 0 (-1)) 1 (-1)) 2 (-1)) 3 (-1)) 4 (-1)) 5 (-1)) 6 (-1)) 7 (-1)))), (sz + 1, .inl (E.2.1, 8, .inl (fun _ => 0))), (sz + 2, .inl (E.2.1, 320, .inl (fun _ => 0))), (sz + 3, .inl (E.2.1, 58, .inl (fun _ => 0))), (sz + 4, .inl (E.2.1, 58, .inl (fun _ => 0))), (sz + 5, .inl (E.2.1, 77, .inl (fun _ => 0))), (sz + 6, .inl (E.2.1, 500, .inl (fun _ => 0))), (sz + 7, .inl (E.2.1, 6, .inl (fun _ => 0))), (sz + 8, .inl (E.2.1, 6, .inl (fun _ => 0))), (sz + 9, .inl (E.2.1, 6, .inl (fun _ => 0))), (sz + 10, .inl (E.2.1, 77, .inl (fun _ => 0)))]) := hD
  have hsz : H.size = sz + 11 := hsz
  refine va_putF (D := D) (ci := 11) (v := .ref (sz + 10)) (ty := .array .int) (C := RX12) (T := TX12) (N := 31) hx hb hts (zi iX12) tyX12 tyX12_ok nmX12 hown hK hP hD hS q0 (zQ_get he _ _) rfl 25 (by decide) (zh hts k4_91) (fun _ h9 => h9) rfl hin rfl (by decide +kernel) rfl rfl (Nat.le_of_ble_eq_true rfl) dX12_init_125 (fun H locs hP hD hS => ?_)
  rw [zQ_set he] at hP hD
  have hP : va_P D vwCl (zQ ws q0 (h0, .inr (11, [.int 0, .int 0, .ref sz, .ref (sz + 1), .ref (sz + 2), .ref (sz + 3), .ref (sz + 4), .int 0, .ref (sz + 5), .ref (sz + 6), .int 0, .int 0, .int 0, .int 0, .int 0, .int 0, .int 0, .int 0, .int 0, .long 0, .int 0, .int 0, .ref (sz + 7), .ref (sz + 8), .ref (sz + 9), .ref (sz + 10), .null, .null, .null, .null, .int 0])) [(sz, .inl (E.2.1, 8, .inl (upd (upd (upd (upd (upd (upd (upd (upd (fun _ => 0) 0 (-1)) 1 (-1)) 2 (-1)) 3 (-1)) 4 (-1)) 5 (-1)) 6 (-1)) 7 (-1)))), (sz + 1, .inl (E.2.1, 8, .inl (fun _ => 0))), (sz + 2, .inl (E.2.1, 320, .inl (fun _ => 0))), (sz + 3, .inl (E.2.1, 58, .inl (fun _ => 0))), (sz + 4, .inl (E.2.1, 58, .inl (fun _ => 0))), (sz + 5, .inl (E.2.1, 77, .inl (fun _ => 0))), (sz + 6, .inl (E.2.1, 500, .inl (fun _ => 0))), (sz + 7, .inl (E.2.1, 6, .inl (fun _ => 0))), (sz + 8, .inl (E.2.1, 6, .inl (fun _ => 0))), (sz + 9, .inl (E.2.1, 6, .inl (fun _ => 0))), (sz + 10, .inl (E.2.1, 77, .inl (fun _ => 0)))]) H := hP
  have hD : va_D A (zQ ws q0 (h0, .inr (11, [.int 0, .int 0, .ref sz, .ref (sz + 1), .ref (sz + 2), .ref (sz + 3), .ref (sz + 4), .int 0, .ref (sz + 5), .ref (sz + 6), .int 0, .int 0, .int 0, .int 0, .int 0, .int 0, .int 0, .int 0, .int 0, .long 0, .int 0, .int 0, .ref (sz + 7), .ref (sz + 8), .ref (sz + 9), .ref (sz + 10), .null, .null, .null, .null, .int 0])) [(sz, .inl (E.2.1, 8, .inl (upd (upd (upd (upd (upd (upd (upd (upd (fun _ => 0) 0 (-1)) 1 (-1)) 2 (-1)) 3 (-1)) 4 (-1)) 5 (-1)) 6 (-1)) 7 (-1)))), (sz + 1, .inl (E.2.1, 8, .inl (fun _ => 0))), (sz + 2, .inl (E.2.1, 320, .inl (fun _ => 0))), (sz + 3, .inl (E.2.1, 58, .inl (fun _ => 0))), (sz + 4, .inl (E.2.1, 58, .inl (fun _ => 0))), (sz + 5, .inl (E.2.1, 77, .inl (fun _ => 0))), (sz + 6, .inl (E.2.1, 500, .inl (fun _ => 0))), (sz + 7, .inl (E.2.1, 6, .inl (fun _ => 0))), (sz + 8, .inl (E.2.1, 6, .inl (fun _ => 0))), (sz + 9, .inl (E.2.1, 6, .inl (fun _ => 0))), (sz + 10, .inl (E.2.1, 77, .inl (fun _ => 0)))]) := hD
  refine zsz (fun hz9 => ?_)
  have hz8 : sz + 10 < H.size := (hP (ws.length + 10) _ (zQ_getN rfl)).lt
  rw [hsz0] at hz9
  have hsz : H.size = sz + 11 := Nat.le_antisymm hz9 hz8
  refine lv_aload_n hx hb dX12_init_128 rfl (lv_at hl 0 rfl) ?_
  refine lv_iconst (v := 2) hx hb dX12_init_129 (by decide) ?_
  refine znewa (atype := .boolean) (a0 := (2, .inl (fun _ => 0))) (N' := 2) (b := sz + 11) hx hb (zh hts k4_160) (hK.2 2 _ rfl).2 hP hD hS hA (fun _ => rfl) (by decide) (by decide) (Nat.le_of_ble_eq_true rfl) (Nat.le_of_ble_eq_true rfl) (Nat.le_of_ble_eq_true rfl) hsz dX12_init_130 (fun H hsz hP hD hS => ?_)
  rw [zQ_push] at hP hD
  have hP : va_P D vwCl (zQ ws q0 (h0, .inr (11, [.int 0, .int 0, .ref sz, .ref (sz + 1), .ref (sz + 2), .ref (sz + 3), .ref (sz + 4), .int 0, .ref (sz + 5), .ref (sz + 6), .int 0, .int 0, .int 0, .int 0, .int 0, .int 0, .int 0, .int 0, .int 0, .long 0, .int 0, .int 0, .ref (sz + 7), .ref (sz + 8), .ref (sz + 9), .ref (sz + 10), .null, .null, .null, .null, .int 0])) [(sz, .inl (E.2.1, 8, .inl (upd (upd (upd (upd (upd (upd (upd (upd (fun _ => 0) 0 (-1)) 1 (-1)) 2 (-1)) 3 (-1)) 4 (-1)) 5 (-1)) 6 (-1)) 7 (-1)))), (sz + 1, .inl (E.2.1, 8, .inl (fun _ => 0))), (sz + 2, .inl (E.2.1, 320, .inl (fun _ => 0))), (sz + 3, .inl (E.2.1, 58, .inl (fun _ => 0))), (sz + 4, .inl (E.2.1, 58, .inl (fun _ => 0))), (sz + 5, .inl (E.2.1, 77, .inl (fun _ => 0))), (sz + 6, .inl (E.2.1, 500, .inl (fun _ => 0))), (sz + 7, .inl (E.2.1, 6, .inl (fun _ => 0))), (sz + 8, .inl (E.2.1, 6, .inl (fun _ => 0))), (sz + 9, .inl (E.2.1, 6, .inl (fun _ => 0))), (sz + 10, .inl (E.2.1, 77, .inl (fun _ => 0))), (sz + 11, .inl (E.2.2.2.1, 2, .inl (fun _ => 0)))]) H := hP
  have hD : va_D A (zQ ws q0 (h0, .inr (11, [.int 0, .int 0, .ref sz, .ref (sz + 1), .ref (sz + 2), .ref (sz + 3), .ref (sz + 4), .int 0, .ref (sz + 5), .ref (sz + 6), .int 0, .int 0, .int 0, .int 0, .int 0, .int 0, .int 0, .int 0, .int 0, .long 0, .int 0, .int 0, .ref (sz + 7), .ref (sz + 8), .ref (sz + 9), .ref (sz + 10), .null, .null, .null, .null, .int 0])) [(sz, .inl (E.2.1, 8, .inl (upd (upd (upd (upd (upd (upd (upd (upd (fun _ => 0) 0 (-1)) 1 (-1)) 2 (-1)) 3 (-1)) 4 (-1)) 5 (-1)) 6 (-1)) 7 (-1)))), (sz + 1, .inl (E.2.1, 8, .inl (fun _ => 0))), (sz + 2, .inl (E.2.1, 320, .inl (fun _ => 0))), (sz + 3, .inl (E.2.1, 58, .inl (fun _ => 0))), (sz + 4, .inl (E.2.1, 58, .inl (fun _ => 0))), (sz + 5, .inl (E.2.1, 77, .inl (fun _ => 0))), (sz + 6, .inl (E.2.1, 500, .inl (fun _ => 0))), (sz + 7, .inl (E.2.1, 6, .inl (fun _ => 0))), (sz + 8, .inl (E.2.1, 6, .inl (fun _ => 0))), (sz + 9, .inl (E.2.1, 6, .inl (fun _ => 0))), (sz + 10, .inl (E.2.1, 77, .inl (fun _ => 0))), (sz + 11, .inl (E.2.2.2.1, 2, .inl (fun _ => 0)))]) := hD
  have hsz : H.size = sz + 12 := hsz
  refine va_putF (D := D) (ci := 11) (v := .ref (sz + 11)) (ty := .array .boolean) (C := RX12) (T := TX12) (N := 31) hx hb hts (zi iX12) tyX12 tyX12_ok nmX12 hown hK hP hD hS q0 (zQ_get he _ _) rfl 26 (by decide) (zh hts k4_92) (fun _ h9 => h9) rfl hin rfl (by decide +kernel) rfl rfl (Nat.le_of_ble_eq_true rfl) dX12_init_132 (fun H locs hP hD hS => ?_)
  rw [zQ_set he] at hP hD
  have hP : va_P D vwCl (zQ ws q0 (h0, .inr (11, [.int 0, .int 0, .ref sz, .ref (sz + 1), .ref (sz + 2), .ref (sz + 3), .ref (sz + 4), .int 0, .ref (sz + 5), .ref (sz + 6), .int 0, .int 0, .int 0, .int 0, .int 0, .int 0, .int 0, .int 0, .int 0, .long 0, .int 0, .int 0, .ref (sz + 7), .ref (sz + 8), .ref (sz + 9), .ref (sz + 10), .ref (sz + 11), .null, .null, .null, .int 0])) [(sz, .inl (E.2.1, 8, .inl (upd (upd (upd (upd (upd (upd (upd (upd (fun _ => 0) 0 (-1)) 1 (-1)) 2 (-1)) 3 (-1)) 4 (-1)) 5 (-1)) 6 (-1)) 7 (-1)))), (sz + 1, .inl (E.2.1, 8, .inl (fun _ => 0))), (sz + 2, .inl (E.2.1, 320, .inl (fun _ => 0))), (sz + 3, .inl (E.2.1, 58, .inl (fun _ => 0))), (sz + 4, .inl (E.2.1, 58, .inl (fun _ => 0))), (sz + 5, .inl (E.2.1, 77, .inl (fun _ => 0))), (sz + 6, .inl (E.2.1, 500, .inl (fun _ => 0))), (sz + 7, .inl (E.2.1, 6, .inl (fun _ => 0))), (sz + 8, .inl (E.2.1, 6, .inl (fun _ => 0))), (sz + 9, .inl (E.2.1, 6, .inl (fun _ => 0))), (sz + 10, .inl (E.2.1, 77, .inl (fun _ => 0))), (sz + 11, .inl (E.2.2.2.1, 2, .inl (fun _ => 0)))]) H := hP
  have hD : va_D A (zQ ws q0 (h0, .inr (11, [.int 0, .int 0, .ref sz, .ref (sz + 1), .ref (sz + 2), .ref (sz + 3), .ref (sz + 4), .int 0, .ref (sz + 5), .ref (sz + 6), .int 0, .int 0, .int 0, .int 0, .int 0, .int 0, .int 0, .int 0, .int 0, .long 0, .int 0, .int 0, .ref (sz + 7), .ref (sz + 8), .ref (sz + 9), .ref (sz + 10), .ref (sz + 11), .null, .null, .null, .int 0])) [(sz, .inl (E.2.1, 8, .inl (upd (upd (upd (upd (upd (upd (upd (upd (fun _ => 0) 0 (-1)) 1 (-1)) 2 (-1)) 3 (-1)) 4 (-1)) 5 (-1)) 6 (-1)) 7 (-1)))), (sz + 1, .inl (E.2.1, 8, .inl (fun _ => 0))), (sz + 2, .inl (E.2.1, 320, .inl (fun _ => 0))), (sz + 3, .inl (E.2.1, 58, .inl (fun _ => 0))), (sz + 4, .inl (E.2.1, 58, .inl (fun _ => 0))), (sz + 5, .inl (E.2.1, 77, .inl (fun _ => 0))), (sz + 6, .inl (E.2.1, 500, .inl (fun _ => 0))), (sz + 7, .inl (E.2.1, 6, .inl (fun _ => 0))), (sz + 8, .inl (E.2.1, 6, .inl (fun _ => 0))), (sz + 9, .inl (E.2.1, 6, .inl (fun _ => 0))), (sz + 10, .inl (E.2.1, 77, .inl (fun _ => 0))), (sz + 11, .inl (E.2.2.2.1, 2, .inl (fun _ => 0)))]) := hD
  refine zsz (fun hz9 => ?_)
  have hz8 : sz + 11 < H.size := (hP (ws.length + 11) _ (zQ_getN rfl)).lt
  rw [hsz0] at hz9
  have hsz : H.size = sz + 12 := Nat.le_antisymm hz9 hz8
  refine lv_aload_n hx hb dX12_init_135 rfl (lv_at hl 0 rfl) ?_
  refine lv_bipush (v := 116) hx hb dX12_init_136 (by decide) ?_
  refine znewa (atype := .int) (a0 := (116, .inl (fun _ => 0))) (N' := 116) (b := sz + 12) hx hb (zh hts k0_48) (hK.2 1 _ rfl).2 hP hD hS hA (fun _ => rfl) (by decide) (by decide) (Nat.le_of_ble_eq_true rfl) (Nat.le_of_ble_eq_true rfl) (Nat.le_of_ble_eq_true rfl) hsz dX12_init_138 (fun H hsz hP hD hS => ?_)
  rw [zQ_push] at hP hD
  have hP : va_P D vwCl (zQ ws q0 (h0, .inr (11, [.int 0, .int 0, .ref sz, .ref (sz + 1), .ref (sz + 2), .ref (sz + 3), .ref (sz + 4), .int 0, .ref (sz + 5), .ref (sz + 6), .int 0, .int 0, .int 0, .int 0, .int 0, .int 0, .int 0, .int 0, .int 0, .long 0, .int 0, .int 0, .ref (sz + 7), .ref (sz + 8), .ref (sz + 9), .ref (sz + 10), .ref (sz + 11), .null, .null, .null, .int 0])) [(sz, .inl (E.2.1, 8, .inl (upd (upd (upd (upd (upd (upd (upd (upd (fun _ => 0) 0 (-1)) 1 (-1)) 2 (-1)) 3 (-1)) 4 (-1)) 5 (-1)) 6 (-1)) 7 (-1)))), (sz + 1, .inl (E.2.1, 8, .inl (fun _ => 0))), (sz + 2, .inl (E.2.1, 320, .inl (fun _ => 0))), (sz + 3, .inl (E.2.1, 58, .inl (fun _ => 0))), (sz + 4, .inl (E.2.1, 58, .inl (fun _ => 0))), (sz + 5, .inl (E.2.1, 77, .inl (fun _ => 0))), (sz + 6, .inl (E.2.1, 500, .inl (fun _ => 0))), (sz + 7, .inl (E.2.1, 6, .inl (fun _ => 0))), (sz + 8, .inl (E.2.1, 6, .inl (fun _ => 0))), (sz + 9, .inl (E.2.1, 6, .inl (fun _ => 0))), (sz + 10, .inl (E.2.1, 77, .inl (fun _ => 0))), (sz + 11, .inl (E.2.2.2.1, 2, .inl (fun _ => 0))), (sz + 12, .inl (E.2.1, 116, .inl (fun _ => 0)))]) H := hP
  have hD : va_D A (zQ ws q0 (h0, .inr (11, [.int 0, .int 0, .ref sz, .ref (sz + 1), .ref (sz + 2), .ref (sz + 3), .ref (sz + 4), .int 0, .ref (sz + 5), .ref (sz + 6), .int 0, .int 0, .int 0, .int 0, .int 0, .int 0, .int 0, .int 0, .int 0, .long 0, .int 0, .int 0, .ref (sz + 7), .ref (sz + 8), .ref (sz + 9), .ref (sz + 10), .ref (sz + 11), .null, .null, .null, .int 0])) [(sz, .inl (E.2.1, 8, .inl (upd (upd (upd (upd (upd (upd (upd (upd (fun _ => 0) 0 (-1)) 1 (-1)) 2 (-1)) 3 (-1)) 4 (-1)) 5 (-1)) 6 (-1)) 7 (-1)))), (sz + 1, .inl (E.2.1, 8, .inl (fun _ => 0))), (sz + 2, .inl (E.2.1, 320, .inl (fun _ => 0))), (sz + 3, .inl (E.2.1, 58, .inl (fun _ => 0))), (sz + 4, .inl (E.2.1, 58, .inl (fun _ => 0))), (sz + 5, .inl (E.2.1, 77, .inl (fun _ => 0))), (sz + 6, .inl (E.2.1, 500, .inl (fun _ => 0))), (sz + 7, .inl (E.2.1, 6, .inl (fun _ => 0))), (sz + 8, .inl (E.2.1, 6, .inl (fun _ => 0))), (sz + 9, .inl (E.2.1, 6, .inl (fun _ => 0))), (sz + 10, .inl (E.2.1, 77, .inl (fun _ => 0))), (sz + 11, .inl (E.2.2.2.1, 2, .inl (fun _ => 0))), (sz + 12, .inl (E.2.1, 116, .inl (fun _ => 0)))]) := hD
  have hsz : H.size = sz + 13 := hsz
  refine va_putF (D := D) (ci := 11) (v := .ref (sz + 12)) (ty := .array .int) (C := RX12) (T := TX12) (N := 31) hx hb hts (zi iX12) tyX12 tyX12_ok nmX12 hown hK hP hD hS q0 (zQ_get he _ _) rfl 27 (by decide) (zh hts k4_93) (fun _ h9 => h9) rfl hin rfl (by decide +kernel) rfl rfl (Nat.le_of_ble_eq_true rfl) dX12_init_140 (fun H locs hP hD hS => ?_)
  rw [zQ_set he] at hP hD
  have hP : va_P D vwCl (zQ ws q0 (h0, .inr (11, [.int 0, .int 0, .ref sz, .ref (sz + 1), .ref (sz + 2), .ref (sz + 3), .ref (sz + 4), .int 0, .ref (sz + 5), .ref (sz + 6), .int 0, .int 0, .int 0, .int 0, .int 0, .int 0, .int 0, .int 0, .int 0, .long 0, .int 0, .int 0, .ref (sz + 7), .ref (sz + 8), .ref (sz + 9), .ref (sz + 10), .ref (sz + 11), .ref (sz + 12), .null, .null, .int 0])) [(sz, .inl (E.2.1, 8, .inl (upd (upd (upd (upd (upd (upd (upd (upd (fun _ => 0) 0 (-1)) 1 (-1)) 2 (-1)) 3 (-1)) 4 (-1)) 5 (-1)) 6 (-1)) 7 (-1)))), (sz + 1, .inl (E.2.1, 8, .inl (fun _ => 0))), (sz + 2, .inl (E.2.1, 320, .inl (fun _ => 0))), (sz + 3, .inl (E.2.1, 58, .inl (fun _ => 0))), (sz + 4, .inl (E.2.1, 58, .inl (fun _ => 0))), (sz + 5, .inl (E.2.1, 77, .inl (fun _ => 0))), (sz + 6, .inl (E.2.1, 500, .inl (fun _ => 0))), (sz + 7, .inl (E.2.1, 6, .inl (fun _ => 0))), (sz + 8, .inl (E.2.1, 6, .inl (fun _ => 0))), (sz + 9, .inl (E.2.1, 6, .inl (fun _ => 0))), (sz + 10, .inl (E.2.1, 77, .inl (fun _ => 0))), (sz + 11, .inl (E.2.2.2.1, 2, .inl (fun _ => 0))), (sz + 12, .inl (E.2.1, 116, .inl (fun _ => 0)))]) H := hP
  have hD : va_D A (zQ ws q0 (h0, .inr (11, [.int 0, .int 0, .ref sz, .ref (sz + 1), .ref (sz + 2), .ref (sz + 3), .ref (sz + 4), .int 0, .ref (sz + 5), .ref (sz + 6), .int 0, .int 0, .int 0, .int 0, .int 0, .int 0, .int 0, .int 0, .int 0, .long 0, .int 0, .int 0, .ref (sz + 7), .ref (sz + 8), .ref (sz + 9), .ref (sz + 10), .ref (sz + 11), .ref (sz + 12), .null, .null, .int 0])) [(sz, .inl (E.2.1, 8, .inl (upd (upd (upd (upd (upd (upd (upd (upd (fun _ => 0) 0 (-1)) 1 (-1)) 2 (-1)) 3 (-1)) 4 (-1)) 5 (-1)) 6 (-1)) 7 (-1)))), (sz + 1, .inl (E.2.1, 8, .inl (fun _ => 0))), (sz + 2, .inl (E.2.1, 320, .inl (fun _ => 0))), (sz + 3, .inl (E.2.1, 58, .inl (fun _ => 0))), (sz + 4, .inl (E.2.1, 58, .inl (fun _ => 0))), (sz + 5, .inl (E.2.1, 77, .inl (fun _ => 0))), (sz + 6, .inl (E.2.1, 500, .inl (fun _ => 0))), (sz + 7, .inl (E.2.1, 6, .inl (fun _ => 0))), (sz + 8, .inl (E.2.1, 6, .inl (fun _ => 0))), (sz + 9, .inl (E.2.1, 6, .inl (fun _ => 0))), (sz + 10, .inl (E.2.1, 77, .inl (fun _ => 0))), (sz + 11, .inl (E.2.2.2.1, 2, .inl (fun _ => 0))), (sz + 12, .inl (E.2.1, 116, .inl (fun _ => 0)))]) := hD
  refine zsz (fun hz9 => ?_)
  have hz8 : sz + 12 < H.size := (hP (ws.length + 12) _ (zQ_getN rfl)).lt
  rw [hsz0] at hz9
  have hsz : H.size = sz + 13 := Nat.le_antisymm hz9 hz8
  refine lv_aload_n hx hb dX12_init_143 rfl (lv_at hl 0 rfl) ?_
  refine lv_sipush (v := 154) hx hb dX12_init_144 (by decide) ?_
  refine znewa (atype := .int) (a0 := (154, .inl (fun _ => 0))) (N' := 154) (b := sz + 13) hx hb (zh hts k0_48) (hK.2 1 _ rfl).2 hP hD hS hA (fun _ => rfl) (by decide) (by decide) (Nat.le_of_ble_eq_true rfl) (Nat.le_of_ble_eq_true rfl) (Nat.le_of_ble_eq_true rfl) hsz dX12_init_147 (fun H hsz hP hD hS => ?_)
  rw [zQ_push] at hP hD
  have hP : va_P D vwCl (zQ ws q0 (h0, .inr (11, [.int 0, .int 0, .ref sz, .ref (sz + 1), .ref (sz + 2), .ref (sz + 3), .ref (sz + 4), .int 0, .ref (sz + 5), .ref (sz + 6), .int 0, .int 0, .int 0, .int 0, .int 0, .int 0, .int 0, .int 0, .int 0, .long 0, .int 0, .int 0, .ref (sz + 7), .ref (sz + 8), .ref (sz + 9), .ref (sz + 10), .ref (sz + 11), .ref (sz + 12), .null, .null, .int 0])) [(sz, .inl (E.2.1, 8, .inl (upd (upd (upd (upd (upd (upd (upd (upd (fun _ => 0) 0 (-1)) 1 (-1)) 2 (-1)) 3 (-1)) 4 (-1)) 5 (-1)) 6 (-1)) 7 (-1)))), (sz + 1, .inl (E.2.1, 8, .inl (fun _ => 0))), (sz + 2, .inl (E.2.1, 320, .inl (fun _ => 0))), (sz + 3, .inl (E.2.1, 58, .inl (fun _ => 0))), (sz + 4, .inl (E.2.1, 58, .inl (fun _ => 0))), (sz + 5, .inl (E.2.1, 77, .inl (fun _ => 0))), (sz + 6, .inl (E.2.1, 500, .inl (fun _ => 0))), (sz + 7, .inl (E.2.1, 6, .inl (fun _ => 0))), (sz + 8, .inl (E.2.1, 6, .inl (fun _ => 0))), (sz + 9, .inl (E.2.1, 6, .inl (fun _ => 0))), (sz + 10, .inl (E.2.1, 77, .inl (fun _ => 0))), (sz + 11, .inl (E.2.2.2.1, 2, .inl (fun _ => 0))), (sz + 12, .inl (E.2.1, 116, .inl (fun _ => 0))), (sz + 13, .inl (E.2.1, 154, .inl (fun _ => 0)))]) H := hP
  have hD : va_D A (zQ ws q0 (h0, .inr (11, [.int 0, .int 0, .ref sz, .ref (sz + 1), .ref (sz + 2), .ref (sz + 3), .ref (sz + 4), .int 0, .ref (sz + 5), .ref (sz + 6), .int 0, .int 0, .int 0, .int 0, .int 0, .int 0, .int 0, .int 0, .int 0, .long 0, .int 0, .int 0, .ref (sz + 7), .ref (sz + 8), .ref (sz + 9), .ref (sz + 10), .ref (sz + 11), .ref (sz + 12), .null, .null, .int 0])) [(sz, .inl (E.2.1, 8, .inl (upd (upd (upd (upd (upd (upd (upd (upd (fun _ => 0) 0 (-1)) 1 (-1)) 2 (-1)) 3 (-1)) 4 (-1)) 5 (-1)) 6 (-1)) 7 (-1)))), (sz + 1, .inl (E.2.1, 8, .inl (fun _ => 0))), (sz + 2, .inl (E.2.1, 320, .inl (fun _ => 0))), (sz + 3, .inl (E.2.1, 58, .inl (fun _ => 0))), (sz + 4, .inl (E.2.1, 58, .inl (fun _ => 0))), (sz + 5, .inl (E.2.1, 77, .inl (fun _ => 0))), (sz + 6, .inl (E.2.1, 500, .inl (fun _ => 0))), (sz + 7, .inl (E.2.1, 6, .inl (fun _ => 0))), (sz + 8, .inl (E.2.1, 6, .inl (fun _ => 0))), (sz + 9, .inl (E.2.1, 6, .inl (fun _ => 0))), (sz + 10, .inl (E.2.1, 77, .inl (fun _ => 0))), (sz + 11, .inl (E.2.2.2.1, 2, .inl (fun _ => 0))), (sz + 12, .inl (E.2.1, 116, .inl (fun _ => 0))), (sz + 13, .inl (E.2.1, 154, .inl (fun _ => 0)))]) := hD
  have hsz : H.size = sz + 14 := hsz
  refine va_putF (D := D) (ci := 11) (v := .ref (sz + 13)) (ty := .array .int) (C := RX12) (T := TX12) (N := 31) hx hb hts (zi iX12) tyX12 tyX12_ok nmX12 hown hK hP hD hS q0 (zQ_get he _ _) rfl 28 (by decide) (zh hts k4_94) (fun _ h9 => h9) rfl hin rfl (by decide +kernel) rfl rfl (Nat.le_of_ble_eq_true rfl) dX12_init_149 (fun H locs hP hD hS => ?_)
  rw [zQ_set he] at hP hD
  have hP : va_P D vwCl (zQ ws q0 (h0, .inr (11, [.int 0, .int 0, .ref sz, .ref (sz + 1), .ref (sz + 2), .ref (sz + 3), .ref (sz + 4), .int 0, .ref (sz + 5), .ref (sz + 6), .int 0, .int 0, .int 0, .int 0, .int 0, .int 0, .int 0, .int 0, .int 0, .long 0, .int 0, .int 0, .ref (sz + 7), .ref (sz + 8), .ref (sz + 9), .ref (sz + 10), .ref (sz + 11), .ref (sz + 12), .ref (sz + 13), .null, .int 0])) [(sz, .inl (E.2.1, 8, .inl (upd (upd (upd (upd (upd (upd (upd (upd (fun _ => 0) 0 (-1)) 1 (-1)) 2 (-1)) 3 (-1)) 4 (-1)) 5 (-1)) 6 (-1)) 7 (-1)))), (sz + 1, .inl (E.2.1, 8, .inl (fun _ => 0))), (sz + 2, .inl (E.2.1, 320, .inl (fun _ => 0))), (sz + 3, .inl (E.2.1, 58, .inl (fun _ => 0))), (sz + 4, .inl (E.2.1, 58, .inl (fun _ => 0))), (sz + 5, .inl (E.2.1, 77, .inl (fun _ => 0))), (sz + 6, .inl (E.2.1, 500, .inl (fun _ => 0))), (sz + 7, .inl (E.2.1, 6, .inl (fun _ => 0))), (sz + 8, .inl (E.2.1, 6, .inl (fun _ => 0))), (sz + 9, .inl (E.2.1, 6, .inl (fun _ => 0))), (sz + 10, .inl (E.2.1, 77, .inl (fun _ => 0))), (sz + 11, .inl (E.2.2.2.1, 2, .inl (fun _ => 0))), (sz + 12, .inl (E.2.1, 116, .inl (fun _ => 0))), (sz + 13, .inl (E.2.1, 154, .inl (fun _ => 0)))]) H := hP
  have hD : va_D A (zQ ws q0 (h0, .inr (11, [.int 0, .int 0, .ref sz, .ref (sz + 1), .ref (sz + 2), .ref (sz + 3), .ref (sz + 4), .int 0, .ref (sz + 5), .ref (sz + 6), .int 0, .int 0, .int 0, .int 0, .int 0, .int 0, .int 0, .int 0, .int 0, .long 0, .int 0, .int 0, .ref (sz + 7), .ref (sz + 8), .ref (sz + 9), .ref (sz + 10), .ref (sz + 11), .ref (sz + 12), .ref (sz + 13), .null, .int 0])) [(sz, .inl (E.2.1, 8, .inl (upd (upd (upd (upd (upd (upd (upd (upd (fun _ => 0) 0 (-1)) 1 (-1)) 2 (-1)) 3 (-1)) 4 (-1)) 5 (-1)) 6 (-1)) 7 (-1)))), (sz + 1, .inl (E.2.1, 8, .inl (fun _ => 0))), (sz + 2, .inl (E.2.1, 320, .inl (fun _ => 0))), (sz + 3, .inl (E.2.1, 58, .inl (fun _ => 0))), (sz + 4, .inl (E.2.1, 58, .inl (fun _ => 0))), (sz + 5, .inl (E.2.1, 77, .inl (fun _ => 0))), (sz + 6, .inl (E.2.1, 500, .inl (fun _ => 0))), (sz + 7, .inl (E.2.1, 6, .inl (fun _ => 0))), (sz + 8, .inl (E.2.1, 6, .inl (fun _ => 0))), (sz + 9, .inl (E.2.1, 6, .inl (fun _ => 0))), (sz + 10, .inl (E.2.1, 77, .inl (fun _ => 0))), (sz + 11, .inl (E.2.2.2.1, 2, .inl (fun _ => 0))), (sz + 12, .inl (E.2.1, 116, .inl (fun _ => 0))), (sz + 13, .inl (E.2.1, 154, .inl (fun _ => 0)))]) := hD
  refine zsz (fun hz9 => ?_)
  have hz8 : sz + 13 < H.size := (hP (ws.length + 13) _ (zQ_getN rfl)).lt
  rw [hsz0] at hz9
  have hsz : H.size = sz + 14 := Nat.le_antisymm hz9 hz8
  refine lv_aload_n hx hb dX12_init_152 rfl (lv_at hl 0 rfl) ?_
  refine lv_bipush (v := 16) hx hb dX12_init_153 (by decide) ?_
  refine znewa (atype := .int) (a0 := (16, .inl (fun _ => 0))) (N' := 16) (b := sz + 14) hx hb (zh hts k0_48) (hK.2 1 _ rfl).2 hP hD hS hA (fun _ => rfl) (by decide) (by decide) (Nat.le_of_ble_eq_true rfl) (Nat.le_of_ble_eq_true rfl) (Nat.le_of_ble_eq_true rfl) hsz dX12_init_155 (fun H hsz hP hD hS => ?_)
  rw [zQ_push] at hP hD
  have hP : va_P D vwCl (zQ ws q0 (h0, .inr (11, [.int 0, .int 0, .ref sz, .ref (sz + 1), .ref (sz + 2), .ref (sz + 3), .ref (sz + 4), .int 0, .ref (sz + 5), .ref (sz + 6), .int 0, .int 0, .int 0, .int 0, .int 0, .int 0, .int 0, .int 0, .int 0, .long 0, .int 0, .int 0, .ref (sz + 7), .ref (sz + 8), .ref (sz + 9), .ref (sz + 10), .ref (sz + 11), .ref (sz + 12), .ref (sz + 13), .null, .int 0])) [(sz, .inl (E.2.1, 8, .inl (upd (upd (upd (upd (upd (upd (upd (upd (fun _ => 0) 0 (-1)) 1 (-1)) 2 (-1)) 3 (-1)) 4 (-1)) 5 (-1)) 6 (-1)) 7 (-1)))), (sz + 1, .inl (E.2.1, 8, .inl (fun _ => 0))), (sz + 2, .inl (E.2.1, 320, .inl (fun _ => 0))), (sz + 3, .inl (E.2.1, 58, .inl (fun _ => 0))), (sz + 4, .inl (E.2.1, 58, .inl (fun _ => 0))), (sz + 5, .inl (E.2.1, 77, .inl (fun _ => 0))), (sz + 6, .inl (E.2.1, 500, .inl (fun _ => 0))), (sz + 7, .inl (E.2.1, 6, .inl (fun _ => 0))), (sz + 8, .inl (E.2.1, 6, .inl (fun _ => 0))), (sz + 9, .inl (E.2.1, 6, .inl (fun _ => 0))), (sz + 10, .inl (E.2.1, 77, .inl (fun _ => 0))), (sz + 11, .inl (E.2.2.2.1, 2, .inl (fun _ => 0))), (sz + 12, .inl (E.2.1, 116, .inl (fun _ => 0))), (sz + 13, .inl (E.2.1, 154, .inl (fun _ => 0))), (sz + 14, .inl (E.2.1, 16, .inl (fun _ => 0)))]) H := hP
  have hD : va_D A (zQ ws q0 (h0, .inr (11, [.int 0, .int 0, .ref sz, .ref (sz + 1), .ref (sz + 2), .ref (sz + 3), .ref (sz + 4), .int 0, .ref (sz + 5), .ref (sz + 6), .int 0, .int 0, .int 0, .int 0, .int 0, .int 0, .int 0, .int 0, .int 0, .long 0, .int 0, .int 0, .ref (sz + 7), .ref (sz + 8), .ref (sz + 9), .ref (sz + 10), .ref (sz + 11), .ref (sz + 12), .ref (sz + 13), .null, .int 0])) [(sz, .inl (E.2.1, 8, .inl (upd (upd (upd (upd (upd (upd (upd (upd (fun _ => 0) 0 (-1)) 1 (-1)) 2 (-1)) 3 (-1)) 4 (-1)) 5 (-1)) 6 (-1)) 7 (-1)))), (sz + 1, .inl (E.2.1, 8, .inl (fun _ => 0))), (sz + 2, .inl (E.2.1, 320, .inl (fun _ => 0))), (sz + 3, .inl (E.2.1, 58, .inl (fun _ => 0))), (sz + 4, .inl (E.2.1, 58, .inl (fun _ => 0))), (sz + 5, .inl (E.2.1, 77, .inl (fun _ => 0))), (sz + 6, .inl (E.2.1, 500, .inl (fun _ => 0))), (sz + 7, .inl (E.2.1, 6, .inl (fun _ => 0))), (sz + 8, .inl (E.2.1, 6, .inl (fun _ => 0))), (sz + 9, .inl (E.2.1, 6, .inl (fun _ => 0))), (sz + 10, .inl (E.2.1, 77, .inl (fun _ => 0))), (sz + 11, .inl (E.2.2.2.1, 2, .inl (fun _ => 0))), (sz + 12, .inl (E.2.1, 116, .inl (fun _ => 0))), (sz + 13, .inl (E.2.1, 154, .inl (fun _ => 0))), (sz + 14, .inl (E.2.1, 16, .inl (fun _ => 0)))]) := hD
  have hsz : H.size = sz + 15 := hsz
  refine va_putF (D := D) (ci := 11) (v := .ref (sz + 14)) (ty := .array .int) (C := RX12) (T := TX12) (N := 31) hx hb hts (zi iX12) tyX12 tyX12_ok nmX12 hown hK hP hD hS q0 (zQ_get he _ _) rfl 29 (by decide) (zh hts k4_95) (fun _ h9 => h9) rfl hin rfl (by decide +kernel) rfl rfl (Nat.le_of_ble_eq_true rfl) dX12_init_157 (fun H locs hP hD hS => ?_)
  rw [zQ_set he] at hP hD
  have hP : va_P D vwCl (zQ ws q0 (h0, .inr (11, [.int 0, .int 0, .ref sz, .ref (sz + 1), .ref (sz + 2), .ref (sz + 3), .ref (sz + 4), .int 0, .ref (sz + 5), .ref (sz + 6), .int 0, .int 0, .int 0, .int 0, .int 0, .int 0, .int 0, .int 0, .int 0, .long 0, .int 0, .int 0, .ref (sz + 7), .ref (sz + 8), .ref (sz + 9), .ref (sz + 10), .ref (sz + 11), .ref (sz + 12), .ref (sz + 13), .ref (sz + 14), .int 0])) [(sz, .inl (E.2.1, 8, .inl (upd (upd (upd (upd (upd (upd (upd (upd (fun _ => 0) 0 (-1)) 1 (-1)) 2 (-1)) 3 (-1)) 4 (-1)) 5 (-1)) 6 (-1)) 7 (-1)))), (sz + 1, .inl (E.2.1, 8, .inl (fun _ => 0))), (sz + 2, .inl (E.2.1, 320, .inl (fun _ => 0))), (sz + 3, .inl (E.2.1, 58, .inl (fun _ => 0))), (sz + 4, .inl (E.2.1, 58, .inl (fun _ => 0))), (sz + 5, .inl (E.2.1, 77, .inl (fun _ => 0))), (sz + 6, .inl (E.2.1, 500, .inl (fun _ => 0))), (sz + 7, .inl (E.2.1, 6, .inl (fun _ => 0))), (sz + 8, .inl (E.2.1, 6, .inl (fun _ => 0))), (sz + 9, .inl (E.2.1, 6, .inl (fun _ => 0))), (sz + 10, .inl (E.2.1, 77, .inl (fun _ => 0))), (sz + 11, .inl (E.2.2.2.1, 2, .inl (fun _ => 0))), (sz + 12, .inl (E.2.1, 116, .inl (fun _ => 0))), (sz + 13, .inl (E.2.1, 154, .inl (fun _ => 0))), (sz + 14, .inl (E.2.1, 16, .inl (fun _ => 0)))]) H := hP
  have hD : va_D A (zQ ws q0 (h0, .inr (11, [.int 0, .int 0, .ref sz, .ref (sz + 1), .ref (sz + 2), .ref (sz + 3), .ref (sz + 4), .int 0, .ref (sz + 5), .ref (sz + 6), .int 0, .int 0, .int 0, .int 0, .int 0, .int 0, .int 0, .int 0, .int 0, .long 0, .int 0, .int 0, .ref (sz + 7), .ref (sz + 8), .ref (sz + 9), .ref (sz + 10), .ref (sz + 11), .ref (sz + 12), .ref (sz + 13), .ref (sz + 14), .int 0])) [(sz, .inl (E.2.1, 8, .inl (upd (upd (upd (upd (upd (upd (upd (upd (fun _ => 0) 0 (-1)) 1 (-1)) 2 (-1)) 3 (-1)) 4 (-1)) 5 (-1)) 6 (-1)) 7 (-1)))), (sz + 1, .inl (E.2.1, 8, .inl (fun _ => 0))), (sz + 2, .inl (E.2.1, 320, .inl (fun _ => 0))), (sz + 3, .inl (E.2.1, 58, .inl (fun _ => 0))), (sz + 4, .inl (E.2.1, 58, .inl (fun _ => 0))), (sz + 5, .inl (E.2.1, 77, .inl (fun _ => 0))), (sz + 6, .inl (E.2.1, 500, .inl (fun _ => 0))), (sz + 7, .inl (E.2.1, 6, .inl (fun _ => 0))), (sz + 8, .inl (E.2.1, 6, .inl (fun _ => 0))), (sz + 9, .inl (E.2.1, 6, .inl (fun _ => 0))), (sz + 10, .inl (E.2.1, 77, .inl (fun _ => 0))), (sz + 11, .inl (E.2.2.2.1, 2, .inl (fun _ => 0))), (sz + 12, .inl (E.2.1, 116, .inl (fun _ => 0))), (sz + 13, .inl (E.2.1, 154, .inl (fun _ => 0))), (sz + 14, .inl (E.2.1, 16, .inl (fun _ => 0)))]) := hD
  refine zsz (fun hz9 => ?_)
  have hz8 : sz + 14 < H.size := (hP (ws.length + 14) _ (zQ_getN rfl)).lt
  rw [hsz0] at hz9
  have hsz : H.size = sz + 15 := Nat.le_antisymm hz9 hz8
  exact hend _ _ _ _ hP hD hS dX12_init_160
