theorem zent_n {l : Launch} {y : MethodName} {ws ws' : List Cond} {rm : Room} {av : List Value} {D : va_G} {E : zE} {sz : Nat} {w w' : va_W} {mc ms : Nat} {cc : ByteArray} {nL : Nat} (hy : plainName y.cls = true) (hw : ws = Cond.code y cc nL (none) :: ws') (hav : (lg_sl av).length ≤ nL)
    (k : ∀ (p : Program) (e : Env) (s : State) (m : MethodId) (args : Array Value) (below : List Frame) (meth : Method) (c : Code) (Q : State → Prop) (A : Nat → Prop), p.tables.exec = Jvm.exec → c.code = cc → c.maxLocals = nL → s.vm.findClass y.cls = some m.cls → (∀ w ∈ ws, w.before args s = true) → (∀ q : Nat, s.heap.size ≤ q → A q) → va_K D vwCl (zty E) s → va_P D vwCl w s.heap → va_D A w → va_S A s.heap s.heap [] → zSt E A s s.heap → meth.name = y.name → ∀ ls : Array Slot, lv_has ls nL (lv_args 0 av) →
      (∀ (H : Heap) (locs : List Loc) (ls : Array Slot) (pc : Nat), va_P D vwCl w' H → va_D A w' → va_S A s.heap H locs → decode cc pc = .ok (.return_, 1) → W p l e rm s m args below meth c H locs mc ms Q (F0 m pc ls [])) → W p l e rm s m args below meth c s.heap [] 0 0 Q (F0 m 0 ls [])) : zCv l y ws rm av D E sz w w' mc ms := by
  refine Met.ofW (cc := cc) (maxL := nL) (ret := none) hy hw ?_
  intro p e s m args below meth c s₁ B hml hv
  obtain ⟨rfl, hsz, hP, hK, hD0, hE⟩ := hv
  have hx := B.exec
  have hb := B.bytes
  have hr := B.returns
  have hts := atoms_spec (ws := ws) B.pre
  have hown : s.vm.findClass y.cls = some m.cls := findClass_of_methodNamed B.named
  have hlocks := B.notSynchronized
  subst hsz
  have hD := hD0.self (sz := s.heap.size)
  have hl := lv_entry av (n := nL) hav
  rw [lg_entry_eq]
  generalize (lg_sl av ++ List.replicate (nL - (lg_sl av).length) Slot.unset).toArray = ls at hl ⊢
  refine k p e s m av.toArray below meth c _ (va_A w s.heap.size) hx hb hml hown hts (fun q h => Or.inr h) hK hP hD va_S.rf hE (name_of_methodNamed B.named B.method).1 ls hl ?_
  intro H locs ls pc hP hD hS hd
  exact W.vret hx hb hr (fun t ht hW => ⟨⟨(), rfl, trivial, by rw [ht]; exact hP, va_K.moved hW.alike hK, hD⟩, hS.F ht⟩) hS.2.2 hd
section ZN
variable {p : Program} {l : Launch} {e : Env} {R : Room} {s : State} {m : MethodId} {args : Array Value} {below : List Frame} {meth : Method} {H : Heap} {locs : List Loc} {cells slots : Nat} {Q : State → Prop}
variable {cc : ByteArray} {pc : Nat} {ls : Array Slot} {rest : List Value} {D : va_G} {cl : List vw_C} {tys : List (ClassId × FieldType)} {ws : va_W} {A : Nat → Prop} {H0 : Heap}
/-- 'new', with the address: the heap's next -/
theorem zva_new {c0 : Code} (hexec : p.tables.exec = Jvm.exec) (hb : c0.code = cc) {own C : String} {T : u_T} {N ci index : Nat} {Ts : List Cond} (hts : ∀ w ∈ Ts, w.before args s = true) (hin : ∀ w ∈ u_ws C T N, w ∈ Ts) (ty : Nat → FieldType) (hty : ∀ k, k < N → parseFieldDescriptor (T k).2.2.1 = some (ty k)) (hown : s.vm.findClass own = some m.cls) (hcl : (Cond.classLink own index C).before args s = true) (hinst : (Cond.instantiable C N).before args s = true) (hini : (Cond.initialized C).before args s = true)
    (hK : va_K D cl tys s) (hP : va_P D cl ws H) (hD : va_D A ws) (hS : va_S A H0 H locs) (hA : ∀ q : Nat, H0.size ≤ q → A q) (hc : cl[ci]? = some (C, T, N)) {fs : List Value} (hfs : ∀ j, j < N → defaultValue (ty j) = vp_V fs j) (hcells : cells + 1 ≤ R.cells) (hslots : slots + N ≤ R.slots) (hdg : decode cc pc = .ok (.new index, 3))
    (kk : ∀ (H1 : Heap), va_P D cl (ws ++ [(H.size, .inr (ci, fs))]) H1 → va_D A (ws ++ [(H.size, .inr (ci, fs))]) → va_S A H0 H1 locs →
      W p l e R s m args below meth c0 H1 locs (cells + 1) (slots + N) Q (F0 m (pc + 3) ls (.ref H.size :: rest))) : W p l e R s m args below meth c0 H locs cells slots Q (F0 m pc ls rest) := by
  have hKn := hK.1 ci _ hc
  refine W.newcK hexec hb hown hcl hinst hini rfl hdg hcells hslots hKn.2.1 rfl fun H1 kC hkC e1 z1 o1 => ?_
  have hk : ∀ (k : Nat) (x : Nat × va_E), ws[k]? = some x → H1[x.1]? = H[x.1]? := fun k x hx => o1 x.1 ((hP k x hx).lt)
  refine kk H1 ((hP.kept hk).app (fun k x hx => ?_)) (hD.push hP rfl (hA _ hS.1)) ⟨Nat.le_trans hS.1 (by omega), fun x h1 h2 => (o1 x (Nat.lt_of_lt_of_le h1 hS.1)).trans (hS.2.1 x h1 h2), hS.2.2⟩
  have hz : k < 1 := (List.getElem?_eq_some_iff.mp hx).1
  rw [show k = 0 by omega] at hx
  cases hx
  exact ⟨_, hc, (u_born ty hts hin hKn hkC e1 hty).to hfs⟩
theorem zsz {c : Code} {g : JFrame} (h : H.size ≤ s.heap.size + cells → W p l e R s m args below meth c H locs cells slots Q g) : W p l e R s m args below meth c H locs cells slots Q g := fun T hT X => h (by rw [← hT]; exact X.heapSize) T hT X
end ZN
def zko (x : Int32) : Nat := if x = 1 then 4 else if x = 2 then 0 else if x = 3 then 9 else if x = 4 then 1 else 7
theorem zko_ok (kc : Nat → zKC) (b : Nat) (x x1 x2 x3 : Int32) : ((va_up kc b (zko x, x1, x2, x3)) b).1 = 0 ∨ ((va_up kc b (zko x, x1, x2, x3)) b).1 = 1 ∨ ((va_up kc b (zko x, x1, x2, x3)) b).1 = 4 ∨ ((va_up kc b (zko x, x1, x2, x3)) b).1 = 7 ∨ ((va_up kc b (zko x, x1, x2, x3)) b).1 = 9 := by
  simp only [va_up, if_true]
  unfold zko
  repeat' split
  all_goals simp
def zkset (k : Nat) (v : Int32) (c : zKC) : zKC := if k = 0 then (c.1, v, c.2.2) else if k = 1 then (c.1, c.2.1, v, c.2.2.2) else (c.1, c.2.1, c.2.2.1, v)
theorem zkf_up (kc : Nat → zKC) (a : Nat) (c : zKC) : va_up (zkf kc) a (.inr (c.1, [.int c.2.1, .int c.2.2.1, .int c.2.2.2])) = zkf (va_up kc a c) := by
  funext b
  by_cases h : b = a <;> simp [va_up, zkf, h]
theorem zs_K (E : zE) (KL : List Nat) (kc : Nat → zKC) (on : zNS) (rw rd ft tr : zOS) (la : Nat → zLS) (mo : zMS) {A : Nat → Prop} {a q : Nat} (hD : va_D A (zW E KL kc on rw rd ft tr la mo)) (ha : a ∈ KL) (hq : (zW E KL kc on rw rd ft tr la mo)[q]? = some (a, zkf kc a)) (c : zKC) :
    (zW E KL kc on rw rd ft tr la mo).set q (a, .inr (c.1, [.int c.2.1, .int c.2.2.1, .int c.2.2.2])) = zW E KL (va_up kc a c) on rw rd ft tr la mo := by
  rw [show zW E KL kc on rw rd ft tr la mo = zX E on rw rd ft tr la mo ++ va_pl KL (zkf kc) from rfl, va_pl_set hD ha hq, zkf_up]
  rfl
section ZP
variable {p : Program} {l : Launch} {e : Env} {R : Room} {s : State} {m : MethodId} {args : Array Value} {below : List Frame} {meth : Method} {c : Code} {H : Heap} {locs : List Loc} {cells slots : Nat} {Q : State → Prop}
variable {cc : ByteArray} {pc : Nat} {ls : Array Slot} {rest : List Value} {D : va_G} {a : Nat} {tys : List (ClassId × FieldType)} {E : zE} {KL : List Nat} {kc : Nat → zKC} {on : zNS} {rw rd ft tr : zOS} {la : Nat → zLS} {mo : zMS} {A : Nat → Prop} {H0 : Heap}
theorem zputK (hexec : p.tables.exec = Jvm.exec) (hb : c.code = cc) {index : Nat} {c0 : Cond} (hts : ∀ w ∈ c0 :: zB, w.before args s = true) (hown : s.vm.findClass RX3 = some m.cls) (hK : va_K D vwCl tys s) (hP : va_P D vwCl (zW E KL kc on rw rd ft tr la mo) H) (hD : va_D A (zW E KL kc on rw rd ft tr la mo)) (hS : va_S A H0 H locs) (ha : a ∈ KL)
    (hk : (kc a).1 = 0 ∨ (kc a).1 = 1 ∨ (kc a).1 = 4 ∨ (kc a).1 = 7 ∨ (kc a).1 = 9) (hin : meth.name = "<init>") (k : Nat) (hk3 : k < 3) {name : String} (hn : (TX0 k).2.1 = name)
    (hlink : (Cond.fieldLink RX3 index "OldNews$Keeper" name "I").before args s = true) {v : Int32} (hdg : decode cc pc = .ok (.putfield index, 3))
    (kk : ∀ (H1 : Heap) (locs1 : List Loc), va_P D vwCl (zW E KL (va_up kc a (zkset k v (kc a))) on rw rd ft tr la mo) H1 → va_D A (zW E KL (va_up kc a (zkset k v (kc a))) on rw rd ft tr la mo) → va_S A H0 H1 locs1 → W p l e R s m args below meth c H1 locs1 cells slots Q (F0 m (pc + 3) ls rest)) : W p l e R s m args below meth c H locs cells slots Q (F0 m pc ls (.int v :: .ref a :: rest)) := by
  subst hn
  have e : ∀ (T : u_T) (ty : Nat → FieldType), (∀ j, j < 3 → T j = TX0 j) → (∀ j, j < 3 → parseFieldDescriptor (T j).2.2.1 = some (ty j)) → (∀ x, x < 3 → ∀ y, y < 3 → x ≠ y → (T x).2.1 ≠ (T y).2.1) → ∀ (C : String) (ci q : Nat), vwCl[ci]? = some (C, T, 3) → (∀ w ∈ u_ws C T 3, w ∈ c0 :: zB) → (kc a).1 = ci → (zW E KL kc on rw rd ft tr la mo)[q]? = some (a, .inr (ci, [.int (kc a).2.1, .int (kc a).2.2.1, .int (kc a).2.2.2])) → W p l e R s m args below meth c H locs cells slots Q (F0 m pc ls (.int v :: .ref a :: rest)) := by
    intro T ty hT hty hnm C ci q hc hi hci hq
    have h2 : (T k).2.2.1 = "I" := by rw [hT k hk3]; rcases (show k = 0 ∨ k = 1 ∨ k = 2 by omega) with rfl | rfl | rfl <;> rfl
    have h3 : (T k).1 = "OldNews$Keeper" := by rw [hT k hk3]; rcases (show k = 0 ∨ k = 1 ∨ k = 2 by omega) with rfl | rfl | rfl <;> rfl
    have h4 : (T k).2.2.2 = true := by rw [hT k hk3]; rcases (show k = 0 ∨ k = 1 ∨ k = 2 by omega) with rfl | rfl | rfl <;> rfl
    have hq2 : (zW E KL kc on rw rd ft tr la mo)[q]? = some (a, zkf kc a) := by rw [hq, zkf, hci]
    refine va_putF (D := D) (ci := ci) (C := C) (T := T) (N := 3) (ref := "OldNews$Keeper") (own := RX3) (ty := .int) (v := .int v) hexec hb hts hi ty hty hnm hown hK hP hD hS q hq hc k hk3 ?_ ?_ h4 hin h3 (by rw [h2]; rfl) rfl rfl (show k < 3 from hk3) hdg (fun H1 locs1 hP1 hD1 hS1 => ?_)
    · rw [h2, hT k hk3]; exact hlink
    · rw [h3]; exact fun _ h => h
    · have ew : (zW E KL kc on rw rd ft tr la mo).set q (a, .inr (ci, ([.int (kc a).2.1, .int (kc a).2.2.1, .int (kc a).2.2.2] : List Value).set k (.int v))) = zW E KL (va_up kc a (zkset k v (kc a))) on rw rd ft tr la mo := by
        rw [← zs_K E KL kc on rw rd ft tr la mo hD ha hq2 (zkset k v (kc a)), ← hci]
        rcases (show k = 0 ∨ k = 1 ∨ k = 2 by omega) with rfl | rfl | rfl <;> rfl
      rw [ew] at hP1 hD1
      exact kk H1 locs1 hP1 hD1 hS1
  rcases hk with h | h | h | h | h
  · obtain ⟨q, hq⟩ := zg_K E KL kc on rw rd ft tr la mo ha h
    exact e TX0 tyX0 (fun _ _ => rfl) tyX0_ok nmX0 RX0 0 q rfl (zi iX0) h hq
  · obtain ⟨q, hq⟩ := zg_K E KL kc on rw rd ft tr la mo ha h
    exact e TX1 tyX1 (fun j hj => by rcases (show j = 0 ∨ j = 1 ∨ j = 2 by omega) with rfl | rfl | rfl <;> rfl) tyX1_ok nmX1 RX1 1 q rfl (zi iX1) h hq
  · obtain ⟨q, hq⟩ := zg_K E KL kc on rw rd ft tr la mo ha h
    exact e TX5 tyX5 (fun j hj => by rcases (show j = 0 ∨ j = 1 ∨ j = 2 by omega) with rfl | rfl | rfl <;> rfl) tyX5_ok nmX5 RX5 4 q rfl (zi iX5) h hq
  · obtain ⟨q, hq⟩ := zg_K E KL kc on rw rd ft tr la mo ha h
    exact e TX8 tyX8 (fun j hj => by rcases (show j = 0 ∨ j = 1 ∨ j = 2 by omega) with rfl | rfl | rfl <;> rfl) tyX8_ok nmX8 RX8 7 q rfl (zi iX8) h hq
  · obtain ⟨q, hq⟩ := zg_K E KL kc on rw rd ft tr la mo ha h
    exact e TX10 tyX10 (fun j hj => by rcases (show j = 0 ∨ j = 1 ∨ j = 2 by omega) with rfl | rfl | rfl <;> rfl) tyX10_ok nmX10 RX10 9 q rfl (zi iX10) h hq
end ZP
theorem zk3 (kc : Nat → zKC) (a : Nat) (x1 x2 x3 : Int32) : va_up (va_up (va_up kc a (zkset 0 x1 (kc a))) a (zkset 1 x2 (va_up kc a (zkset 0 x1 (kc a)) a))) a (zkset 2 x3 (va_up (va_up kc a (zkset 0 x1 (kc a))) a (zkset 1 x2 (va_up kc a (zkset 0 x1 (kc a)) a)) a)) = va_up kc a ((kc a).1, x1, x2, x3) := by
  funext b
  by_cases h : b = a <;> simp [va_up, zkset, h]
set_option maxHeartbeats 4000000 in
set_option maxRecDepth 100000 in
theorem qX3_init (l : Launch) (D : va_G) (E : zE) (KL : List Nat) (kc : Nat → zKC) (on : zNS) (rw rd ft tr : zOS) (la : Nat → zLS) (mo : zMS) (a : Nat) (ha : a ∈ KL) (hk : (kc a).1 = 0 ∨ (kc a).1 = 1 ∨ (kc a).1 = 4 ∨ (kc a).1 = 7 ∨ (kc a).1 = 9) (sz : Nat) (x1 x2 x3 : Int32) : zCv l yX3_init zwX3_init ({ frames := 1, cells := 0, slots := 0, locals := 12 } : Room) [.ref a, .int x1, .int x2, .int x3] D E sz (zW E KL kc on rw rd ft tr la mo) (zW E KL (va_up kc a ((kc a).1, x1, x2, x3)) on rw rd ft tr la mo) 0 0 := by
  refine zent_n (cc := cX3_init) (nL := 4) (by decide) rfl (Nat.le_of_ble_eq_true rfl) ?_
  intro p e s m args below meth c Q A hx hb hml hown hts hA hK hP hD hS hE hin ls hl hend
  have hown : s.vm.findClass RX3 = some m.cls := hown
  have hin : meth.name = "<init>" := hin
  have hl : lv_has ls 4 [(0, .ref a), (1, .int x1), (2, .int x2), (3, .int x3)] := hl
  refine lv_aload_n hx hb dX3_init_0 rfl (lv_at hl 0 rfl) ?_
  refine W.objInit hx hb hown (zh hts k2_4) (zh hts k0_27) (zh hts k0_28) rfl (by rw [hml]; exact hl.1) rfl dX3_init_1 (Nat.le_of_ble_eq_true rfl) (Nat.le_of_ble_eq_true rfl) ?_
  refine W.eq (g2 := F0 m 4 ls []) rfl ?_
  refine lv_aload_n hx hb dX3_init_4 rfl (lv_at hl 0 rfl) ?_
  refine lv_iload_n hx hb dX3_init_5 rfl (lv_at hl 1 rfl) ?_
  refine zputK hx hb hts hown hK hP hD hS ha hk hin 0 (by decide) (name := "index") rfl (zh hts k2_5) dX3_init_6 (fun H locs hP hD hS => ?_)
  refine lv_aload_n hx hb dX3_init_9 rfl (lv_at hl 0 rfl) ?_
  refine lv_iload_n hx hb dX3_init_10 rfl (lv_at hl 2 rfl) ?_
  refine zputK hx hb hts hown hK hP hD hS ha (by simpa [va_up, zkset] using hk) hin 1 (by decide) (name := "n") rfl (zh hts k2_10) dX3_init_11 (fun H locs hP hD hS => ?_)
  refine lv_aload_n hx hb dX3_init_14 rfl (lv_at hl 0 rfl) ?_
  refine lv_iload_n hx hb dX3_init_15 rfl (lv_at hl 3 rfl) ?_
  refine zputK hx hb hts hown hK hP hD hS ha (by simpa [va_up, zkset] using hk) hin 2 (by decide) (name := "c") rfl (zh hts k2_15) dX3_init_16 (fun H locs hP hD hS => ?_)
  rw [zk3] at hP hD
  exact hend _ _ _ _ hP hD hS dX3_init_19
set_option maxHeartbeats 4000000 in
set_option maxRecDepth 100000 in
theorem qX0_init (l : Launch) (D : va_G) (E : zE) (KL : List Nat) (kc : Nat → zKC) (on : zNS) (rw rd ft tr : zOS) (la : Nat → zLS) (mo : zMS) (a : Nat) (ha : a ∈ KL) (hk : (kc a).1 = 0 ∨ (kc a).1 = 1 ∨ (kc a).1 = 9) (sz : Nat) (x1 x2 x3 : Int32) : zCv l yX0_init zwX0_init ({ frames := 2, cells := 0, slots := 0, locals := 35 } : Room) [.ref a, .int x1, .int x2, .int x3] D E sz (zW E KL kc on rw rd ft tr la mo) (zW E KL (va_up kc a ((kc a).1, x1, x2, x3)) on rw rd ft tr la mo) 0 0 := by
  refine zent_n (cc := cX0_init) (nL := 4) (by decide) rfl (Nat.le_of_ble_eq_true rfl) ?_
  intro p e s m args below meth c Q A hx hb hml hown hts hA hK hP hD hS hE hin ls hl hend
  have hown : s.vm.findClass RX0 = some m.cls := hown
  have hl : lv_has ls 4 [(0, .ref a), (1, .int x1), (2, .int x2), (3, .int x3)] := hl
  refine lv_aload_n hx hb dX0_init_0 rfl (lv_at hl 0 rfl) ?_
  refine lv_iload_n hx hb dX0_init_1 rfl (lv_at hl 1 rfl) ?_
  refine lv_iload_n hx hb dX0_init_2 rfl (lv_at hl 2 rfl) ?_
  refine lv_iload_n hx hb dX0_init_3 rfl (lv_at hl 3 rfl) ?_
  refine zcall_v (va_runI (As := [.int x1, .int x2, .int x3]) (rest := []) ⟨hx, hb, hml, hown, hts⟩ (qX3_init l D E KL kc on rw rd ft tr la mo a ha (by omega) _ x1 x2 x3) (cwI 3 hts (zgC k2_3) rfl rfl rfl (zh hts k0_15) (zh hts k2_29) (zh hts k2_2) rfl (by decide +kernel) ⟨Nat.le_of_ble_eq_true rfl, Nat.le_of_ble_eq_true rfl⟩) (zps hE hS hA hK hP hD) rfl rfl hl.1 rfl (lv_room (Nat.le_of_ble_eq_true rfl)) dX0_init_4 ⟨Nat.zero_le _, Nat.zero_le _⟩) hD hS hA (fun H locs hP hD hS => ?_)
  exact hend _ _ _ _ hP hD hS dX0_init_7
set_option maxHeartbeats 4000000 in
set_option maxRecDepth 100000 in
theorem qX5_init (l : Launch) (D : va_G) (E : zE) (KL : List Nat) (kc : Nat → zKC) (on : zNS) (rw rd ft tr : zOS) (la : Nat → zLS) (mo : zMS) (a : Nat) (ha : a ∈ KL) (hk : (kc a).1 = 4) (sz : Nat) (x1 x2 x3 : Int32) : zCv l yX5_init zwX5_init ({ frames := 2, cells := 0, slots := 0, locals := 35 } : Room) [.ref a, .int x1, .int x2, .int x3] D E sz (zW E KL kc on rw rd ft tr la mo) (zW E KL (va_up kc a ((kc a).1, x1, x2, x3)) on rw rd ft tr la mo) 0 0 := by
  refine zent_n (cc := cX5_init) (nL := 4) (by decide) rfl (Nat.le_of_ble_eq_true rfl) ?_
  intro p e s m args below meth c Q A hx hb hml hown hts hA hK hP hD hS hE hin ls hl hend
  have hown : s.vm.findClass RX5 = some m.cls := hown
  have hl : lv_has ls 4 [(0, .ref a), (1, .int x1), (2, .int x2), (3, .int x3)] := hl
  refine lv_aload_n hx hb dX5_init_0 rfl (lv_at hl 0 rfl) ?_
  refine lv_iload_n hx hb dX5_init_1 rfl (lv_at hl 1 rfl) ?_
  refine lv_iload_n hx hb dX5_init_2 rfl (lv_at hl 2 rfl) ?_
  refine lv_iload_n hx hb dX5_init_3 rfl (lv_at hl 3 rfl) ?_
  refine zcall_v (va_runI (As := [.int x1, .int x2, .int x3]) (rest := []) ⟨hx, hb, hml, hown, hts⟩ (qX3_init l D E KL kc on rw rd ft tr la mo a ha (by omega) _ x1 x2 x3) (cwI 3 hts (zgC k2_3) rfl rfl rfl (zh hts k0_15) (zh hts k2_1) (zh hts k2_2) rfl (by decide +kernel) ⟨Nat.le_of_ble_eq_true rfl, Nat.le_of_ble_eq_true rfl⟩) (zps hE hS hA hK hP hD) rfl rfl hl.1 rfl (lv_room (Nat.le_of_ble_eq_true rfl)) dX5_init_4 ⟨Nat.zero_le _, Nat.zero_le _⟩) hD hS hA (fun H locs hP hD hS => ?_)
  exact hend _ _ _ _ hP hD hS dX5_init_7
set_option maxHeartbeats 4000000 in
set_option maxRecDepth 100000 in
theorem qX8_init (l : Launch) (D : va_G) (E : zE) (KL : List Nat) (kc : Nat → zKC) (on : zNS) (rw rd ft tr : zOS) (la : Nat → zLS) (mo : zMS) (a : Nat) (ha : a ∈ KL) (hk : (kc a).1 = 7) (sz : Nat) (x1 x2 x3 : Int32) : zCv l yX8_init zwX8_init ({ frames := 2, cells := 0, slots := 0, locals := 35 } : Room) [.ref a, .int x1, .int x2, .int x3] D E sz (zW E KL kc on rw rd ft tr la mo) (zW E KL (va_up kc a ((kc a).1, x1, x2, x3)) on rw rd ft tr la mo) 0 0 := by
  refine zent_n (cc := cX8_init) (nL := 4) (by decide) rfl (Nat.le_of_ble_eq_true rfl) ?_
  intro p e s m args below meth c Q A hx hb hml hown hts hA hK hP hD hS hE hin ls hl hend
  have hown : s.vm.findClass RX8 = some m.cls := hown
  have hl : lv_has ls 4 [(0, .ref a), (1, .int x1), (2, .int x2), (3, .int x3)] := hl
  refine lv_aload_n hx hb dX8_init_0 rfl (lv_at hl 0 rfl) ?_
  refine lv_iload_n hx hb dX8_init_1 rfl (lv_at hl 1 rfl) ?_
  refine lv_iload_n hx hb dX8_init_2 rfl (lv_at hl 2 rfl) ?_
  refine lv_iload_n hx hb dX8_init_3 rfl (lv_at hl 3 rfl) ?_
  refine zcall_v (va_runI (As := [.int x1, .int x2, .int x3]) (rest := []) ⟨hx, hb, hml, hown, hts⟩ (qX3_init l D E KL kc on rw rd ft tr la mo a ha (by omega) _ x1 x2 x3) (cwI 3 hts (zgC k2_3) rfl rfl rfl (zh hts k0_15) (zh hts k2_59) (zh hts k2_2) rfl (by decide +kernel) ⟨Nat.le_of_ble_eq_true rfl, Nat.le_of_ble_eq_true rfl⟩) (zps hE hS hA hK hP hD) rfl rfl hl.1 rfl (lv_room (Nat.le_of_ble_eq_true rfl)) dX8_init_4 ⟨Nat.zero_le _, Nat.zero_le _⟩) hD hS hA (fun H locs hP hD hS => ?_)
  exact hend _ _ _ _ hP hD hS dX8_init_7
set_option maxHeartbeats 4000000 in
set_option maxRecDepth 100000 in
theorem qX1_init (l : Launch) (D : va_G) (E : zE) (KL : List Nat) (kc : Nat → zKC) (on : zNS) (rw rd ft tr : zOS) (la : Nat → zLS) (mo : zMS) (a : Nat) (ha : a ∈ KL) (hk : (kc a).1 = 1) (sz : Nat) (x1 x2 x3 : Int32) : zCv l yX1_init zwX1_init ({ frames := 3, cells := 0, slots := 0, locals := 58 } : Room) [.ref a, .int x1, .int x2, .int x3] D E sz (zW E KL kc on rw rd ft tr la mo) (zW E KL (va_up kc a ((kc a).1, x1, x2, x3)) on rw rd ft tr la mo) 0 0 := by
  refine zent_n (cc := cX1_init) (nL := 4) (by decide) rfl (Nat.le_of_ble_eq_true rfl) ?_
  intro p e s m args below meth c Q A hx hb hml hown hts hA hK hP hD hS hE hin ls hl hend
  have hown : s.vm.findClass RX1 = some m.cls := hown
  have hl : lv_has ls 4 [(0, .ref a), (1, .int x1), (2, .int x2), (3, .int x3)] := hl
  refine lv_aload_n hx hb dX1_init_0 rfl (lv_at hl 0 rfl) ?_
  refine lv_iload_n hx hb dX1_init_1 rfl (lv_at hl 1 rfl) ?_
  refine lv_iload_n hx hb dX1_init_2 rfl (lv_at hl 2 rfl) ?_
  refine lv_iload_n hx hb dX1_init_3 rfl (lv_at hl 3 rfl) ?_
  refine zcall_v (va_runI (As := [.int x1, .int x2, .int x3]) (rest := []) ⟨hx, hb, hml, hown, hts⟩ (qX0_init l D E KL kc on rw rd ft tr la mo a ha (by omega) _ x1 x2 x3) (cwI 3 hts (zgC k2_28) rfl rfl rfl (zh hts k0_17) (zh hts k2_49) (zh hts k2_27) rfl (by decide +kernel) ⟨Nat.le_of_ble_eq_true rfl, Nat.le_of_ble_eq_true rfl⟩) (zps hE hS hA hK hP hD) rfl rfl hl.1 rfl (lv_room (Nat.le_of_ble_eq_true rfl)) dX1_init_4 ⟨Nat.zero_le _, Nat.zero_le _⟩) hD hS hA (fun H locs hP hD hS => ?_)
  exact hend _ _ _ _ hP hD hS dX1_init_7
set_option maxHeartbeats 4000000 in
set_option maxRecDepth 100000 in
theorem qX10_init (l : Launch) (D : va_G) (E : zE) (KL : List Nat) (kc : Nat → zKC) (on : zNS) (rw rd ft tr : zOS) (la : Nat → zLS) (mo : zMS) (a : Nat) (ha : a ∈ KL) (hk : (kc a).1 = 9) (sz : Nat) (x1 x2 x3 : Int32) : zCv l yX10_init zwX10_init ({ frames := 3, cells := 0, slots := 0, locals := 58 } : Room) [.ref a, .int x1, .int x2, .int x3] D E sz (zW E KL kc on rw rd ft tr la mo) (zW E KL (va_up kc a ((kc a).1, x1, x2, x3)) on rw rd ft tr la mo) 0 0 := by
  refine zent_n (cc := cX10_init) (nL := 4) (by decide) rfl (Nat.le_of_ble_eq_true rfl) ?_
  intro p e s m args below meth c Q A hx hb hml hown hts hA hK hP hD hS hE hin ls hl hend
  have hown : s.vm.findClass RX10 = some m.cls := hown
  have hl : lv_has ls 4 [(0, .ref a), (1, .int x1), (2, .int x2), (3, .int x3)] := hl
  refine lv_aload_n hx hb dX10_init_0 rfl (lv_at hl 0 rfl) ?_
  refine lv_iload_n hx hb dX10_init_1 rfl (lv_at hl 1 rfl) ?_
  refine lv_iload_n hx hb dX10_init_2 rfl (lv_at hl 2 rfl) ?_
  refine lv_iload_n hx hb dX10_init_3 rfl (lv_at hl 3 rfl) ?_
  refine zcall_v (va_runI (As := [.int x1, .int x2, .int x3]) (rest := []) ⟨hx, hb, hml, hown, hts⟩ (qX0_init l D E KL kc on rw rd ft tr la mo a ha (by omega) _ x1 x2 x3) (cwI 3 hts (zgC k2_28) rfl rfl rfl (zh hts k0_17) (zh hts k2_39) (zh hts k2_27) rfl (by decide +kernel) ⟨Nat.le_of_ble_eq_true rfl, Nat.le_of_ble_eq_true rfl⟩) (zps hE hS hA hK hP hD) rfl rfl hl.1 rfl (lv_room (Nat.le_of_ble_eq_true rfl)) dX10_init_4 ⟨Nat.zero_le _, Nat.zero_le _⟩) hD hS hA (fun H locs hP hD hS => ?_)
  exact hend _ _ _ _ hP hD hS dX10_init_7
theorem zn_K (E : zE) (KL : List Nat) (kc : Nat → zKC) (on : zNS) (rw rd ft tr : zOS) (la : Nat → zLS) (mo : zMS) {q : Nat} (hq : q ∉ KL) (i : Nat) : zW E KL kc on rw rd ft tr la mo ++ [(q, .inr (i, [.int 0, .int 0, .int 0]))] = zW E (KL ++ [q]) (va_up kc q (i, 0, 0, 0)) on rw rd ft tr la mo := by
  rw [show zW E KL kc on rw rd ft tr la mo = zX E on rw rd ft tr la mo ++ va_pl KL (zkf kc) from rfl, List.append_assoc, va_pl_push hq]
  rw [show (Sum.inr (i, [Value.int 0, .int 0, .int 0]) : va_E) = .inr ((i, (0 : Int32), (0 : Int32), (0 : Int32)).1, [.int (i, (0 : Int32), (0 : Int32), (0 : Int32)).2.1, .int (i, (0 : Int32), (0 : Int32), (0 : Int32)).2.2.1, .int (i, (0 : Int32), (0 : Int32), (0 : Int32)).2.2.2]) from rfl, zkf_up]
  rfl
theorem zkc_up (kc : Nat → zKC) (q i : Nat) (x1 x2 x3 : Int32) : va_up (va_up kc q (i, 0, 0, 0)) q ((va_up kc q (i, (0 : Int32), (0 : Int32), (0 : Int32)) q).1, x1, x2, x3) = va_up kc q (i, x1, x2, x3) := by
  funext b
  by_cases h : b = q <;> simp [va_up, h]
theorem zent_r {nm : String} {l : Launch} {y : MethodName} {ws ws' : List Cond} {rm : Room} {av : List Value} {D : va_G} {E : zE} {sz : Nat} {w : va_W} {B0 : (Nat → Prop) → Nat → State → Prop} {mc ms : Nat} {cc : ByteArray} {nL : Nat} (hy : plainName y.cls = true) (hw : ws = Cond.code y cc nL (some (.object nm)) :: ws') (hav : (lg_sl av).length ≤ nL)
    (k : ∀ (p : Program) (e : Env) (s : State) (m : MethodId) (args : Array Value) (below : List Frame) (meth : Method) (c : Code) (Q : State → Prop) (A : Nat → Prop), p.tables.exec = Jvm.exec → c.code = cc → c.maxLocals = nL → s.vm.findClass y.cls = some m.cls → (∀ w ∈ ws, w.before args s = true) → (∀ q : Nat, s.heap.size ≤ q → A q) → va_K D vwCl (zty E) s → va_P D vwCl w s.heap → va_D A w → va_S A s.heap s.heap [] → zSt E A s s.heap → s.heap.size = sz → ∀ ls : Array Slot, lv_has ls nL (lv_args 0 av) →
      (∀ (q : Nat) (H : Heap) (locs : List Loc) (ls : Array Slot) (pc : Nat), (∀ t : State, t.heap = H → s.WarmedH t.vm → B0 A q t) → va_S A s.heap H locs → decode cc pc = .ok (.areturn, 1) → W p l e rm s m args below meth c H locs mc ms Q (F0 m pc ls [.ref q])) → W p l e rm s m args below meth c s.heap [] 0 0 Q (F0 m 0 ls [])) : Met l y ws rm (va_Pc av (zPre D E sz w)) (va_Qr (fun (_ : Unit) => True) (fun _ q t => B0 (va_A w sz) q t) (va_A w sz)) mc ms (va_A w sz) := by
  refine Met.ofW (cc := cc) (maxL := nL) (ret := some (.object nm)) hy hw ?_
  intro p e s m args below meth c s₁ B hml hv
  obtain ⟨rfl, hsz, hP, hK, hD0, hE⟩ := hv
  have hx := B.exec
  have hb := B.bytes
  have hr := B.returns
  have hts := atoms_spec (ws := ws) B.pre
  have hown : s.vm.findClass y.cls = some m.cls := findClass_of_methodNamed B.named
  have hlocks := B.notSynchronized
  subst hsz
  have hD := hD0.self (sz := s.heap.size)
  have hl := lv_entry av (n := nL) hav
  rw [lg_entry_eq]
  generalize (lg_sl av ++ List.replicate (nL - (lg_sl av).length) Slot.unset).toArray = ls at hl ⊢
  refine k p e s m av.toArray below meth c _ (va_A w s.heap.size) hx hb hml hown hts (fun q h => Or.inr h) hK hP hD va_S.rf hE rfl ls hl ?_
  intro q H locs ls pc hB hS hd
  exact W.aret (v := .ref q) hx hb hr (Or.inl ⟨_, rfl⟩) (Or.inr ⟨q, rfl⟩) (fun t ht hW => ⟨⟨(), q, rfl, trivial, hB t ht hW⟩, hS.F ht⟩) hS.2.2 hd
set_option maxHeartbeats 4000000 in
set_option maxRecDepth 100000 in
theorem qX3_ofKind (l : Launch) (D : va_G) (E : zE) (KL : List Nat) (kc : Nat → zKC) (on : zNS) (rw rd ft tr : zOS) (la : Nat → zLS) (mo : zMS) (sz : Nat) (x0 x1 x2 x3 : Int32) : Met l yX3_ofKind zwX3_ofKind ({ frames := 4, cells := 1, slots := 3, locals := 81 } : Room) (va_Pc [.int x0, .int x1, .int x2, .int x3] (zPre D E sz (zW E KL kc on rw rd ft tr la mo))) (va_Qr (fun (_ : Unit) => True) (fun _ q t => (fun A q t => q = sz ∧ zOK D E A (zW E (KL ++ [sz]) (va_up kc sz (zko x0, x1, x2, x3)) on rw rd ft tr la mo) t) (va_A (zW E KL kc on rw rd ft tr la mo) sz) q t) (va_A (zW E KL kc on rw rd ft tr la mo) sz)) 1 3 (va_A (zW E KL kc on rw rd ft tr la mo) sz) := by
  refine zent_r (B0 := (fun A q t => q = sz ∧ zOK D E A (zW E (KL ++ [sz]) (va_up kc sz (zko x0, x1, x2, x3)) on rw rd ft tr la mo) t)) (cc := cX3_ofKind) (nL := 4) (by decide) rfl (Nat.le_of_ble_eq_true rfl) ?_
  intro p e s m args below meth c Q A hx hb hml hown hts hA hK hP hD hS hE hsz0 ls hl hend0
  have hown : s.vm.findClass RX3 = some m.cls := hown
  have hl : lv_has ls 4 [(0, .int x0), (1, .int x1), (2, .int x2), (3, .int x3)] := hl
  have hend : ∀ (q : Nat) (H : Heap) (locs : List Loc) (ls : Array Slot) (pc : Nat), q = sz → ∀ i : Nat, zko x0 = i → va_P D vwCl (zW E (KL ++ [q]) (va_up kc q (i, x1, x2, x3)) on rw rd ft tr la mo) H → va_D A (zW E (KL ++ [q]) (va_up kc q (i, x1, x2, x3)) on rw rd ft tr la mo) → va_S A s.heap H locs → decode cX3_ofKind pc = .ok (.areturn, 1) → W p l e ({ frames := 4, cells := 1, slots := 3, locals := 81 } : Room) s m args below meth c H locs 1 3 Q (F0 m pc ls [.ref q]) := by
    intro q H locs ls pc hq i hi hP hD hS hd
    subst hi
    subst hq
    exact hend0 q H locs ls pc (fun t ht hW => ⟨rfl, by rw [ht]; exact hP, va_K.moved hW.alike hK, hD⟩) hS hd
  refine lv_iload_n hx hb dX3_ofKind_0 rfl (lv_at hl 0 rfl) ?_
  by_cases h1 : x0 = 1
  · refine lv_tableIn (off := 31) (tgt := 32) hx hb dX3_ofKind_1 (by rw [h1]; decide) (by rw [h1]; decide) (by rw [h1]; decide) (by decide) ?_
    refine zva_new (ci := 4) (fs := [.int 0, .int 0, .int 0]) (C := RX5) (T := TX5) (N := 3) hx hb hts (zi iX5) tyX5 tyX5_ok hown (zh hts k1_236) (zh hts k1_237) (zh hts k0_16) hK hP hD hS hA rfl (fun j hj => by rcases (show j = 0 ∨ j = 1 ∨ j = 2 by omega) with rfl | rfl | rfl <;> rfl) (Nat.le_of_ble_eq_true rfl) (Nat.le_of_ble_eq_true rfl) dX3_ofKind_32 (fun H hP hD hS => ?_)
    generalize hq0 : Array.size s.heap = q at hP hD ⊢
    have hq : q ∉ KL := va_pl_fresh2 (X := zX E on rw rd ft tr la mo) (f := zkf kc) hD
    rw [zn_K E KL kc on rw rd ft tr la mo hq] at hP hD
    refine lv_dup hx hb dX3_ofKind_35 rfl ?_
    refine lv_iload_n hx hb dX3_ofKind_36 rfl (lv_at hl 1 rfl) ?_
    refine lv_iload_n hx hb dX3_ofKind_37 rfl (lv_at hl 2 rfl) ?_
    refine lv_iload_n hx hb dX3_ofKind_38 rfl (lv_at hl 3 rfl) ?_
    refine zcall_v (va_runI (As := [.int x1, .int x2, .int x3]) (rest := [.ref q]) ⟨hx, hb, hml, hown, hts⟩ (qX5_init l D E (KL ++ [q]) (va_up kc q (4, 0, 0, 0)) on rw rd ft tr la mo q (List.mem_append_right _ List.mem_cons_self) (by simp [va_up]) _ x1 x2 x3) (cwI 3 hts (zgC k2_0) rfl rfl rfl (zh hts k0_16) (zh hts k1_238) (zh hts k1_239) rfl (by decide +kernel) ⟨Nat.le_of_ble_eq_true rfl, Nat.le_of_ble_eq_true rfl⟩) (zps hE hS hA hK hP hD) rfl rfl hl.1 rfl (lv_room (Nat.le_of_ble_eq_true rfl)) dX3_ofKind_39 ⟨Nat.le_of_ble_eq_true rfl, Nat.le_of_ble_eq_true rfl⟩) hD hS hA (fun H locs hP hD hS => ?_)
    exact hend q H locs ls _ (hq0.symm.trans hsz0) 4 (by unfold zko; simp [*]) (by rw [zkc_up] at hP; exact hP) (by rw [zkc_up] at hD; exact hD) hS dX3_ofKind_42
  · skip
    by_cases h2 : x0 = 2
    · refine lv_tableIn (off := 42) (tgt := 43) hx hb dX3_ofKind_1 (by rw [h2]; decide) (by rw [h2]; decide) (by rw [h2]; decide) (by decide) ?_
      refine zva_new (ci := 0) (fs := [.int 0, .int 0, .int 0]) (C := RX0) (T := TX0) (N := 3) hx hb hts (zi iX0) tyX0 tyX0_ok hown (zh hts k2_24) (zh hts k2_25) (zh hts k0_17) hK hP hD hS hA rfl (fun j hj => by rcases (show j = 0 ∨ j = 1 ∨ j = 2 by omega) with rfl | rfl | rfl <;> rfl) (Nat.le_of_ble_eq_true rfl) (Nat.le_of_ble_eq_true rfl) dX3_ofKind_43 (fun H hP hD hS => ?_)
      generalize hq0 : Array.size s.heap = q at hP hD ⊢
      have hq : q ∉ KL := va_pl_fresh2 (X := zX E on rw rd ft tr la mo) (f := zkf kc) hD
      rw [zn_K E KL kc on rw rd ft tr la mo hq] at hP hD
      refine lv_dup hx hb dX3_ofKind_46 rfl ?_
      refine lv_iload_n hx hb dX3_ofKind_47 rfl (lv_at hl 1 rfl) ?_
      refine lv_iload_n hx hb dX3_ofKind_48 rfl (lv_at hl 2 rfl) ?_
      refine lv_iload_n hx hb dX3_ofKind_49 rfl (lv_at hl 3 rfl) ?_
      refine zcall_v (va_runI (As := [.int x1, .int x2, .int x3]) (rest := [.ref q]) ⟨hx, hb, hml, hown, hts⟩ (qX0_init l D E (KL ++ [q]) (va_up kc q (0, 0, 0, 0)) on rw rd ft tr la mo q (List.mem_append_right _ List.mem_cons_self) (by simp [va_up]) _ x1 x2 x3) (cwI 3 hts (zgC k2_28) rfl rfl rfl (zh hts k0_17) (zh hts k2_26) (zh hts k2_27) rfl (by decide +kernel) ⟨Nat.le_of_ble_eq_true rfl, Nat.le_of_ble_eq_true rfl⟩) (zps hE hS hA hK hP hD) rfl rfl hl.1 rfl (lv_room (Nat.le_of_ble_eq_true rfl)) dX3_ofKind_50 ⟨Nat.le_of_ble_eq_true rfl, Nat.le_of_ble_eq_true rfl⟩) hD hS hA (fun H locs hP hD hS => ?_)
      exact hend q H locs ls _ (hq0.symm.trans hsz0) 0 (by unfold zko; simp [*]) (by rw [zkc_up] at hP; exact hP) (by rw [zkc_up] at hD; exact hD) hS dX3_ofKind_53
    · skip
      by_cases h3 : x0 = 3
      · refine lv_tableIn (off := 53) (tgt := 54) hx hb dX3_ofKind_1 (by rw [h3]; decide) (by rw [h3]; decide) (by rw [h3]; decide) (by decide) ?_
        refine zva_new (ci := 9) (fs := [.int 0, .int 0, .int 0]) (C := RX10) (T := TX10) (N := 3) hx hb hts (zi iX10) tyX10 tyX10_ok hown (zh hts k2_34) (zh hts k2_35) (zh hts k0_18) hK hP hD hS hA rfl (fun j hj => by rcases (show j = 0 ∨ j = 1 ∨ j = 2 by omega) with rfl | rfl | rfl <;> rfl) (Nat.le_of_ble_eq_true rfl) (Nat.le_of_ble_eq_true rfl) dX3_ofKind_54 (fun H hP hD hS => ?_)
        generalize hq0 : Array.size s.heap = q at hP hD ⊢
        have hq : q ∉ KL := va_pl_fresh2 (X := zX E on rw rd ft tr la mo) (f := zkf kc) hD
        rw [zn_K E KL kc on rw rd ft tr la mo hq] at hP hD
        refine lv_dup hx hb dX3_ofKind_57 rfl ?_
        refine lv_iload_n hx hb dX3_ofKind_58 rfl (lv_at hl 1 rfl) ?_
        refine lv_iload_n hx hb dX3_ofKind_59 rfl (lv_at hl 2 rfl) ?_
        refine lv_iload_n hx hb dX3_ofKind_60 rfl (lv_at hl 3 rfl) ?_
        refine zcall_v (va_runI (As := [.int x1, .int x2, .int x3]) (rest := [.ref q]) ⟨hx, hb, hml, hown, hts⟩ (qX10_init l D E (KL ++ [q]) (va_up kc q (9, 0, 0, 0)) on rw rd ft tr la mo q (List.mem_append_right _ List.mem_cons_self) (by simp [va_up]) _ x1 x2 x3) (cwI 3 hts (zgC k2_38) rfl rfl rfl (zh hts k0_18) (zh hts k2_36) (zh hts k2_37) rfl (by decide +kernel) ⟨Nat.le_of_ble_eq_true rfl, Nat.le_of_ble_eq_true rfl⟩) (zps hE hS hA hK hP hD) rfl rfl hl.1 rfl (lv_room (Nat.le_of_ble_eq_true rfl)) dX3_ofKind_61 ⟨Nat.le_of_ble_eq_true rfl, Nat.le_of_ble_eq_true rfl⟩) hD hS hA (fun H locs hP hD hS => ?_)
        exact hend q H locs ls _ (hq0.symm.trans hsz0) 9 (by unfold zko; simp [*]) (by rw [zkc_up] at hP; exact hP) (by rw [zkc_up] at hD; exact hD) hS dX3_ofKind_64
      · skip
        by_cases h4 : x0 = 4
        · refine lv_tableIn (off := 64) (tgt := 65) hx hb dX3_ofKind_1 (by rw [h4]; decide) (by rw [h4]; decide) (by rw [h4]; decide) (by decide) ?_
          refine zva_new (ci := 1) (fs := [.int 0, .int 0, .int 0]) (C := RX1) (T := TX1) (N := 3) hx hb hts (zi iX1) tyX1 tyX1_ok hown (zh hts k2_44) (zh hts k2_45) (zh hts k0_19) hK hP hD hS hA rfl (fun j hj => by rcases (show j = 0 ∨ j = 1 ∨ j = 2 by omega) with rfl | rfl | rfl <;> rfl) (Nat.le_of_ble_eq_true rfl) (Nat.le_of_ble_eq_true rfl) dX3_ofKind_65 (fun H hP hD hS => ?_)
          generalize hq0 : Array.size s.heap = q at hP hD ⊢
          have hq : q ∉ KL := va_pl_fresh2 (X := zX E on rw rd ft tr la mo) (f := zkf kc) hD
          rw [zn_K E KL kc on rw rd ft tr la mo hq] at hP hD
          refine lv_dup hx hb dX3_ofKind_68 rfl ?_
          refine lv_iload_n hx hb dX3_ofKind_69 rfl (lv_at hl 1 rfl) ?_
          refine lv_iload_n hx hb dX3_ofKind_70 rfl (lv_at hl 2 rfl) ?_
          refine lv_iload_n hx hb dX3_ofKind_71 rfl (lv_at hl 3 rfl) ?_
          refine zcall_v (va_runI (As := [.int x1, .int x2, .int x3]) (rest := [.ref q]) ⟨hx, hb, hml, hown, hts⟩ (qX1_init l D E (KL ++ [q]) (va_up kc q (1, 0, 0, 0)) on rw rd ft tr la mo q (List.mem_append_right _ List.mem_cons_self) (by simp [va_up]) _ x1 x2 x3) (cwI 3 hts (zgC k2_48) rfl rfl rfl (zh hts k0_19) (zh hts k2_46) (zh hts k2_47) rfl (by decide +kernel) ⟨Nat.le_of_ble_eq_true rfl, Nat.le_of_ble_eq_true rfl⟩) (zps hE hS hA hK hP hD) rfl rfl hl.1 rfl (lv_room (Nat.le_of_ble_eq_true rfl)) dX3_ofKind_72 ⟨Nat.le_of_ble_eq_true rfl, Nat.le_of_ble_eq_true rfl⟩) hD hS hA (fun H locs hP hD hS => ?_)
          exact hend q H locs ls _ (hq0.symm.trans hsz0) 1 (by unfold zko; simp [*]) (by rw [zkc_up] at hP; exact hP) (by rw [zkc_up] at hD; exact hD) hS dX3_ofKind_75
        · skip
          refine lv_tableOut (tgt := 76) hx hb dX3_ofKind_1 (ztab_1_4 h1 h2 h3 h4) (by decide) ?_
          refine zva_new (ci := 7) (fs := [.int 0, .int 0, .int 0]) (C := RX8) (T := TX8) (N := 3) hx hb hts (zi iX8) tyX8 tyX8_ok hown (zh hts k2_54) (zh hts k2_55) (zh hts k0_20) hK hP hD hS hA rfl (fun j hj => by rcases (show j = 0 ∨ j = 1 ∨ j = 2 by omega) with rfl | rfl | rfl <;> rfl) (Nat.le_of_ble_eq_true rfl) (Nat.le_of_ble_eq_true rfl) dX3_ofKind_76 (fun H hP hD hS => ?_)
          generalize hq0 : Array.size s.heap = q at hP hD ⊢
          have hq : q ∉ KL := va_pl_fresh2 (X := zX E on rw rd ft tr la mo) (f := zkf kc) hD
          rw [zn_K E KL kc on rw rd ft tr la mo hq] at hP hD
          refine lv_dup hx hb dX3_ofKind_79 rfl ?_
          refine lv_iload_n hx hb dX3_ofKind_80 rfl (lv_at hl 1 rfl) ?_
          refine lv_iload_n hx hb dX3_ofKind_81 rfl (lv_at hl 2 rfl) ?_
          refine lv_iload_n hx hb dX3_ofKind_82 rfl (lv_at hl 3 rfl) ?_
          refine zcall_v (va_runI (As := [.int x1, .int x2, .int x3]) (rest := [.ref q]) ⟨hx, hb, hml, hown, hts⟩ (qX8_init l D E (KL ++ [q]) (va_up kc q (7, 0, 0, 0)) on rw rd ft tr la mo q (List.mem_append_right _ List.mem_cons_self) (by simp [va_up]) _ x1 x2 x3) (cwI 3 hts (zgC k2_58) rfl rfl rfl (zh hts k0_20) (zh hts k2_56) (zh hts k2_57) rfl (by decide +kernel) ⟨Nat.le_of_ble_eq_true rfl, Nat.le_of_ble_eq_true rfl⟩) (zps hE hS hA hK hP hD) rfl rfl hl.1 rfl (lv_room (Nat.le_of_ble_eq_true rfl)) dX3_ofKind_83 ⟨Nat.le_of_ble_eq_true rfl, Nat.le_of_ble_eq_true rfl⟩) hD hS hA (fun H locs hP hD hS => ?_)
          exact hend q H locs ls _ (hq0.symm.trans hsz0) 7 (by unfold zko; simp [*]) (by rw [zkc_up] at hP; exact hP) (by rw [zkc_up] at hD; exact hD) hS dX3_ofKind_86
theorem zcall_k {p : Program} {l : Launch} {e : Env} {R : Room} {s : State} {m : MethodId} {args : Array Value} {below : List Frame} {meth : Method} {c : Code} {H : Heap} {locs : List Loc} {cells slots : Nat} {Q : State → Prop} {mc ms pc : Nat} {ls : Array Slot} {st0 rest : List Value} {D : va_G} {E : zE} {w : va_W} {w' : Nat → va_W} {A : Nat → Prop} {H0 : Heap} {b : Nat} {a : Array Value}
    (hr : va_Run p l e R s m args below meth c H locs cells slots mc ms (F0 m pc ls st0) rest (va_Qr (fun (_ : Unit) => True) (fun _ q t => q = H.size ∧ zOK D E (va_A w H.size) (w' H.size) t) (va_A w H.size) a) (va_A w H.size)) (hsz : H.size = b) (hD : va_D A w) (hS : va_S A H0 H locs) (hA : ∀ q : Nat, H0.size ≤ q → A q)
    (kk : ∀ (H1 : Heap) (locs1 : List Loc), va_P D vwCl (w' b) H1 → va_D A (w' b) → va_S A H0 H1 locs1 → W p l e R s m args below meth c H1 locs1 (cells + mc) (slots + ms) Q (F0 m (pc + 3) ls (.ref b :: rest))) : W p l e R s m args below meth c H locs cells slots Q (F0 m pc ls st0) := by
  have hF := zfree hD hS hA
  subst hsz
  refine va_callr hr hS (fun q _ h => hF q h) hF (fun u q t H1 locs ht hvm hw hB hz1 hk1 hS => ?_)
  obtain ⟨rfl, hP1, hK1, hD1⟩ := hB
  rw [ht] at hP1
  exact kk H1 locs hP1 (hD1.weaken (fun _ q _ h => hF q.1 h)) hS
theorem zcl_i {p : Program} {l : Launch} {e : Env} {R : Room} {s : State} {m : MethodId} {args : Array Value} {below : List Frame} {meth : Method} {c : Code} {H : Heap} {locs : List Loc} {cells slots : Nat} {Q : State → Prop} {mc ms pc : Nat} {ls : Array Slot} {st0 rest : List Value} {D : va_G} {E : zE} {w w' : va_W} {A : Nat → Prop} {H0 : Heap} {r : Int32} {a : Array Value}
    (hr : va_Run p l e R s m args below meth c H locs cells slots mc ms (F0 m pc ls st0) rest (va_Qi (fun (x : Int32) (_ : Unit) => x = r) (fun _ t => zOK D E (va_A w H.size) w' t) (va_A w H.size) a) (va_A w H.size)) (hD : va_D A w) (hS : va_S A H0 H locs) (hA : ∀ q : Nat, H0.size ≤ q → A q)
    (kk : ∀ (H1 : Heap) (locs1 : List Loc), H.size ≤ H1.size → va_P D vwCl w' H1 → va_D A w' → va_S A H0 H1 locs1 → W p l e R s m args below meth c H1 locs1 (cells + mc) (slots + ms) Q (F0 m (pc + 3) ls (.int r :: rest))) : W p l e R s m args below meth c H locs cells slots Q (F0 m pc ls st0) := by
  have hF := zfree hD hS hA
  refine va_calli hr hS (fun q _ h => hF q h) hF (fun x u t H1 locs ht hvm hw hB hz1 hk1 hS => ?_)
  obtain ⟨hP1, hK1, hD1⟩ := hB
  rw [ht] at hP1
  subst hw
  exact kk H1 locs hz1 hP1 (hD1.weaken (fun _ q _ h => hF q.1 h)) hS
theorem zcl_v {p : Program} {l : Launch} {e : Env} {R : Room} {s : State} {m : MethodId} {args : Array Value} {below : List Frame} {meth : Method} {c : Code} {H : Heap} {locs : List Loc} {cells slots : Nat} {Q : State → Prop} {mc ms pc : Nat} {ls : Array Slot} {st0 rest : List Value} {D : va_G} {E : zE} {w w' : va_W} {A : Nat → Prop} {H0 : Heap} {a : Array Value}
    (hr : va_Run p l e R s m args below meth c H locs cells slots mc ms (F0 m pc ls st0) rest (va_Qv (fun (_ : Unit) => True) (fun _ t => zOK D E (va_A w H.size) w' t) (va_A w H.size) a) (va_A w H.size)) (hD : va_D A w) (hS : va_S A H0 H locs) (hA : ∀ q : Nat, H0.size ≤ q → A q)
    (kk : ∀ (H1 : Heap) (locs1 : List Loc), H.size ≤ H1.size → va_P D vwCl w' H1 → va_D A w' → va_S A H0 H1 locs1 → W p l e R s m args below meth c H1 locs1 (cells + mc) (slots + ms) Q (F0 m (pc + 3) ls (rest))) : W p l e R s m args below meth c H locs cells slots Q (F0 m pc ls st0) := by
  have hF := zfree hD hS hA
  refine va_callv hr hS (fun q _ h => hF q h) hF (fun u t H1 locs ht hvm hw hB hz1 hk1 hS => ?_)
  obtain ⟨hP1, hK1, hD1⟩ := hB
  rw [ht] at hP1
  exact kk H1 locs hz1 hP1 (hD1.weaken (fun _ q _ h => hF q.1 h)) hS
theorem zent_ia {l : Launch} {y : MethodName} {ws ws' : List Cond} {rm : Room} {av : List Value} {D : va_G} {E : zE} {sz : Nat} {w w' : va_W} {r : Int32} {mc ms : Nat} {cc : ByteArray} {nL : Nat} (hy : plainName y.cls = true) (hw : ws = Cond.code y cc nL (some .int) :: ws') (hav : (lg_sl av).length ≤ nL)
    (k : ∀ (p : Program) (e : Env) (s : State) (m : MethodId) (args : Array Value) (below : List Frame) (meth : Method) (c : Code) (Q : State → Prop) (A : Nat → Prop), p.tables.exec = Jvm.exec → c.code = cc → c.maxLocals = nL → s.vm.findClass y.cls = some m.cls → (∀ w ∈ ws, w.before args s = true) → (∀ q : Nat, s.heap.size ≤ q → A q) → va_K D vwCl (zty E) s → va_P D vwCl w s.heap → va_D A w → va_S A s.heap s.heap [] → zSt E A s s.heap → s.heap.size = sz → ∀ ls : Array Slot, lv_has ls nL (lv_args 0 av) →
      (∀ (H : Heap) (locs : List Loc) (ls : Array Slot) (pc : Nat), va_P D vwCl w' H → va_D A w' → va_S A s.heap H locs → decode cc pc = .ok (.ireturn, 1) → W p l e rm s m args below meth c H locs mc ms Q (F0 m pc ls [.int r])) → W p l e rm s m args below meth c s.heap [] 0 0 Q (F0 m 0 ls [])) : zCi l y ws rm av D E sz w w' r mc ms := by
  refine Met.ofW (cc := cc) (maxL := nL) (ret := some .int) hy hw ?_
  intro p e s m args below meth c s₁ B hml hv
  obtain ⟨rfl, hsz, hP, hK, hD0, hE⟩ := hv
  have hx := B.exec
  have hb := B.bytes
  have hr := B.returns
  have hts := atoms_spec (ws := ws) B.pre
  have hown : s.vm.findClass y.cls = some m.cls := findClass_of_methodNamed B.named
  have hlocks := B.notSynchronized
  subst hsz
  have hD := hD0.self (sz := s.heap.size)
  have hl := lv_entry av (n := nL) hav
  rw [lg_entry_eq]
  generalize (lg_sl av ++ List.replicate (nL - (lg_sl av).length) Slot.unset).toArray = ls at hl ⊢
  refine k p e s m av.toArray below meth c _ (va_A w s.heap.size) hx hb hml hown hts (fun q h => Or.inr h) hK hP hD va_S.rf hE rfl ls hl ?_
  intro H locs ls pc hP hD hS hd
  exact W.iret (v := r) hx hb hr (fun t ht hW => ⟨⟨r, (), rfl, rfl, by rw [ht]; exact hP, va_K.moved hW.alike hK, hD⟩, hS.F ht⟩) hS.2.2 hd
theorem zent_va {l : Launch} {y : MethodName} {ws ws' : List Cond} {rm : Room} {av : List Value} {D : va_G} {E : zE} {sz : Nat} {w w' : va_W} {mc ms : Nat} {cc : ByteArray} {nL : Nat} (hy : plainName y.cls = true) (hw : ws = Cond.code y cc nL (none) :: ws') (hav : (lg_sl av).length ≤ nL)
    (k : ∀ (p : Program) (e : Env) (s : State) (m : MethodId) (args : Array Value) (below : List Frame) (meth : Method) (c : Code) (Q : State → Prop) (A : Nat → Prop), p.tables.exec = Jvm.exec → c.code = cc → c.maxLocals = nL → s.vm.findClass y.cls = some m.cls → (∀ w ∈ ws, w.before args s = true) → (∀ q : Nat, s.heap.size ≤ q → A q) → va_K D vwCl (zty E) s → va_P D vwCl w s.heap → va_D A w → va_S A s.heap s.heap [] → zSt E A s s.heap → s.heap.size = sz → ∀ ls : Array Slot, lv_has ls nL (lv_args 0 av) →
      (∀ (H : Heap) (locs : List Loc) (ls : Array Slot) (pc : Nat), va_P D vwCl w' H → va_D A w' → va_S A s.heap H locs → decode cc pc = .ok (.return_, 1) → W p l e rm s m args below meth c H locs mc ms Q (F0 m pc ls [])) → W p l e rm s m args below meth c s.heap [] 0 0 Q (F0 m 0 ls [])) : zCv l y ws rm av D E sz w w' mc ms := by
  refine Met.ofW (cc := cc) (maxL := nL) (ret := none) hy hw ?_
  intro p e s m args below meth c s₁ B hml hv
  obtain ⟨rfl, hsz, hP, hK, hD0, hE⟩ := hv
  have hx := B.exec
  have hb := B.bytes
  have hr := B.returns
  have hts := atoms_spec (ws := ws) B.pre
  have hown : s.vm.findClass y.cls = some m.cls := findClass_of_methodNamed B.named
  have hlocks := B.notSynchronized
  subst hsz
  have hD := hD0.self (sz := s.heap.size)
  have hl := lv_entry av (n := nL) hav
  rw [lg_entry_eq]
  generalize (lg_sl av ++ List.replicate (nL - (lg_sl av).length) Slot.unset).toArray = ls at hl ⊢
  refine k p e s m av.toArray below meth c _ (va_A w s.heap.size) hx hb hml hown hts (fun q h => Or.inr h) hK hP hD va_S.rf hE rfl ls hl ?_
  intro H locs ls pc hP hD hS hd
  exact W.vret hx hb hr (fun t ht hW => ⟨⟨(), rfl, trivial, by rw [ht]; exact hP, va_K.moved hW.alike hK, hD⟩, hS.F ht⟩) hS.2.2 hd
theorem zent_za {l : Launch} {y : MethodName} {ws ws' : List Cond} {rm : Room} {av : List Value} {D : va_G} {E : zE} {sz : Nat} {w w' : va_W} {r : Int32} {mc ms : Nat} {cc : ByteArray} {nL : Nat} (hy : plainName y.cls = true) (hw : ws = Cond.code y cc nL (some .boolean) :: ws') (hav : (lg_sl av).length ≤ nL)
    (k : ∀ (p : Program) (e : Env) (s : State) (m : MethodId) (args : Array Value) (below : List Frame) (meth : Method) (c : Code) (Q : State → Prop) (A : Nat → Prop), p.tables.exec = Jvm.exec → c.code = cc → c.maxLocals = nL → s.vm.findClass y.cls = some m.cls → (∀ w ∈ ws, w.before args s = true) → (∀ q : Nat, s.heap.size ≤ q → A q) → va_K D vwCl (zty E) s → va_P D vwCl w s.heap → va_D A w → va_S A s.heap s.heap [] → zSt E A s s.heap → s.heap.size = sz → ∀ ls : Array Slot, lv_has ls nL (lv_args 0 av) →
      (∀ (H : Heap) (locs : List Loc) (ls : Array Slot) (pc : Nat), narrow .boolean (.int r) = .int r → va_P D vwCl w' H → va_D A w' → va_S A s.heap H locs → decode cc pc = .ok (.ireturn, 1) → W p l e rm s m args below meth c H locs mc ms Q (F0 m pc ls [.int r])) → W p l e rm s m args below meth c s.heap [] 0 0 Q (F0 m 0 ls [])) : zCi l y ws rm av D E sz w w' r mc ms := by
  refine Met.ofW (cc := cc) (maxL := nL) (ret := some .boolean) hy hw ?_
  intro p e s m args below meth c s₁ B hml hv
  obtain ⟨rfl, hsz, hP, hK, hD0, hE⟩ := hv
  have hx := B.exec
  have hb := B.bytes
  have hr := B.returns
  have hts := atoms_spec (ws := ws) B.pre
  have hown : s.vm.findClass y.cls = some m.cls := findClass_of_methodNamed B.named
  have hlocks := B.notSynchronized
  subst hsz
  have hD := hD0.self (sz := s.heap.size)
  have hl := lv_entry av (n := nL) hav
  rw [lg_entry_eq]
  generalize (lg_sl av ++ List.replicate (nL - (lg_sl av).length) Slot.unset).toArray = ls at hl ⊢
  refine k p e s m av.toArray below meth c _ (va_A w s.heap.size) hx hb hml hown hts (fun q h => Or.inr h) hK hP hD va_S.rf hE rfl ls hl ?_
  intro H locs ls pc hz hP hD hS hd
  exact W.zret (v := r) hx hb hr hz (fun t ht hW => ⟨⟨r, (), rfl, rfl, by rw [ht]; exact hP, va_K.moved hW.alike hK, hD⟩, hS.F ht⟩) hS.2.2 hd
