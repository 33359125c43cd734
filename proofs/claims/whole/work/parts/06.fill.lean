theorem zset_self {w : va_W} {q0 : Nat} {x : Nat × va_E} (he : w[q0]? = some x) : w.set q0 x = w := by
  refine List.ext_getElem? fun i => ?_
  rw [List.getElem?_set]
  by_cases h : q0 = i
  · subst h
    rw [if_pos rfl, if_pos (List.getElem?_eq_some_iff.mp he).1, he]
  · rw [if_neg h]
theorem zset_get {w : va_W} {q0 : Nat} {x : Nat × va_E} (he : w[q0]? = some x) (y : Nat × va_E) : (w.set q0 y)[q0]? = some y := by
  rw [List.getElem?_set]
  simp [(List.getElem?_eq_some_iff.mp he).1]
theorem zfl_0 (f : Nat → Int32) (i : Nat) (v : Int32) : zfl f i i v = f := by
  funext k
  have h : ¬ (i ≤ k ∧ k < i) := by omega
  simp [zfl, h]
theorem zfl_s (f : Nat → Int32) {i j : Nat} (h : i ≤ j) (v : Int32) : upd (zfl f i j v) j v = zfl f i (j + 1) v := by
  funext k
  by_cases hk : k = j
  · subst hk
    have h2 : i ≤ k ∧ k < k + 1 := by omega
    simp [upd, zfl, h2]
  · by_cases h2 : i ≤ k ∧ k < j
    · have h3 : i ≤ k ∧ k < j + 1 := by omega
      simp [upd, zfl, h2, h3, hk]
    · have h3 : ¬ (i ≤ k ∧ k < j + 1) := by omega
      simp [upd, zfl, h2, h3, hk]
set_option maxHeartbeats 4000000 in
set_option maxRecDepth 100000 in
/-- Arrays.fill(row, v) -/
theorem zfill (l : Launch) (D : va_G) (E : zE) (w : va_W) (q0 : Nat) {a n : Nat} {f : Nat → Int32} (he : w[q0]? = some (a, .inl (E.2.1, n, .inl f))) (sz : Nat) (hn : n < 2147483648) (v : Int32) : zCv l yJ7_fill_53178 zwJ7_fill_53178 ({ frames := 0, cells := 0, slots := 0, locals := 0 }) [.ref a, .int v] D E sz w (w.set q0 (a, .inl (E.2.1, n, .inl (zfl f 0 n v)))) 0 0 := by
  refine zent_v (cc := cJ7_fill_53178) (nL := 4) (by decide) rfl (Nat.le_of_ble_eq_true rfl) ?_
  intro p e s m args below meth c Q A hx hb hml hown hts hA hK hP hD hS hE ls hl hend
  have hl : lv_has ls 4 [(0, .ref a), (1, .int v)] := hl
  have lp : ∀ (k i : Nat), i ≤ n → n + 1 ≤ i + k → ∀ (H : Heap) (locs : List Loc) (ls : Array Slot), va_P D vwCl (w.set q0 (a, .inl (E.2.1, n, .inl (zfl f 0 i v)))) H → va_D A (w.set q0 (a, .inl (E.2.1, n, .inl (zfl f 0 i v)))) → va_S A s.heap H locs → lv_has ls 4 [(2, .int (nI i)), (3, .int (nI n)), (0, .ref a), (1, .int v)] → W p l e ({ frames := 0, cells := 0, slots := 0, locals := 0 } : Room) s m args below meth c H locs 0 0 Q (F0 m 5 ls []) := by
    intro k
    induction k with
    | zero => intro i h1 h2; omega
    | succ k ih =>
      intro i h1 h2 H locs ls hP hD hS hl
      refine lv_iload_n hx hb dJ7_fill_53178_5 rfl (lv_at hl 0 rfl) ?_
      refine lv_iload_n hx hb dJ7_fill_53178_6 rfl (lv_at hl 1 rfl) ?_
      refine lv_icmp_ge (tgt := 20) hx hb dJ7_fill_53178_7 (by decide) (fun c1 => ?_) (fun c1 => ?_)
      · have hi : i = n := by
          rcases Nat.lt_or_ge i n with h | h
          · exact absurd c1 (nI_ge h hn)
          · omega
        subst hi
        exact hend _ _ _ _ hP hD hS dJ7_fill_53178_20
      · have hi : i < n := by
          rcases Nat.lt_or_ge i n with h | h
          · exact h
          · exact absurd (nI_le h (by omega)) c1
        refine lv_aload_n hx hb dJ7_fill_53178_10 rfl (lv_at hl 2 rfl) ?_
        refine lv_iload_n hx hb dJ7_fill_53178_11 rfl (lv_at hl 0 rfl) ?_
        refine lv_iload_n hx hb dJ7_fill_53178_12 rfl (lv_at hl 3 rfl) ?_
        refine va_iast hx hb hK hP hD hS q0 1 (zset_get he _) rfl (vp_in_nI hi hn) dJ7_fill_53178_13 (fun H locs hP hD hS => ?_)
        rw [List.set_set, nI_clamp (by omega), zfl_s f (Nat.zero_le i)] at hP hD
        refine lv_iinc (v := nI (i + 1)) (lv' := [(2, .int (nI (i + 1))), (3, .int (nI n)), (0, .ref a), (1, .int v)]) hx hb dJ7_fill_53178_14 hl (k := 0) rfl (nI_1 i) (by decide) rfl (fun ls hl => ?_)
        refine lv_goto (tgt := 5) hx hb dJ7_fill_53178_17 (by decide) ?_
        exact ih (i + 1) hi (by omega) _ _ _ hP hD hS hl
  refine lv_iconst (v := 0) hx hb dJ7_fill_53178_0 (by decide) ?_
  refine lv_istore_n (lv' := [(2, .int 0), (0, .ref a), (1, .int v)]) hx hb dJ7_fill_53178_1 rfl hl (by decide) rfl (fun ls hl => ?_)
  refine lv_aload_n hx hb dJ7_fill_53178_2 rfl (lv_at hl 1 rfl) ?_
  refine va_alen hx hb hK hP q0 1 he rfl (v := nI n) rfl dJ7_fill_53178_3 ?_
  refine lv_istore_n (lv' := [(3, .int (nI n)), (2, .int 0), (0, .ref a), (1, .int v)]) hx hb dJ7_fill_53178_4 rfl hl (by decide) rfl (fun ls hl => ?_)
  rw [← zset_self he, ← zfl_0 f 0 v] at hP hD
  exact lp (n + 1) 0 (Nat.zero_le n) (by omega) _ _ _ hP hD hS (lv_sub hl [1, 0, 2, 3] rfl)
set_option maxHeartbeats 4000000 in
set_option maxRecDepth 100000 in
/-- Arrays.rangeCheck, of a range that fits -/
theorem zrange (l : Launch) (D : va_G) (E : zE) (w : va_W) (sz : Nat) (x0 x1 x2 : Int32) (h : 0 ≤ x1 ∧ x1 ≤ x2 ∧ x2 ≤ x0) : zCv l yJ7_rangeCheck_23922 zwJ7_rangeCheck_23922 ({ frames := 0, cells := 0, slots := 0, locals := 0 }) [.int x0, .int x1, .int x2] D E sz w w 0 0 := by
  refine zent_v (cc := cJ7_rangeCheck_23922) (nL := 3) (by decide) rfl (Nat.le_of_ble_eq_true rfl) ?_
  intro p e s m args below meth c Q A hx hb hml hown hts hA hK hP hD hS hE ls hl hend
  have hl : lv_has ls 3 [(0, .int x0), (1, .int x1), (2, .int x2)] := hl
  refine lv_iload_n hx hb dJ7_rangeCheck_23922_0 rfl (lv_at hl 1 rfl) ?_
  refine lv_iload_n hx hb dJ7_rangeCheck_23922_1 rfl (lv_at hl 2 rfl) ?_
  refine lv_icmp_le (tgt := 46) hx hb dJ7_rangeCheck_23922_2 (by decide) (fun _ => ?_) (fun c1 => absurd h.2.1 c1)
  refine lv_iload_n hx hb dJ7_rangeCheck_23922_46 rfl (lv_at hl 1 rfl) ?_
  refine lv_if_ge (tgt := 59) hx hb dJ7_rangeCheck_23922_47 (by decide) (fun _ => ?_) (fun c1 => absurd h.1 c1)
  refine lv_iload_n hx hb dJ7_rangeCheck_23922_59 rfl (lv_at hl 2 rfl) ?_
  refine lv_iload_n hx hb dJ7_rangeCheck_23922_60 rfl (lv_at hl 0 rfl) ?_
  refine lv_icmp_le (tgt := 73) hx hb dJ7_rangeCheck_23922_61 (by decide) (fun _ => ?_) (fun c1 => absurd h.2.2 c1)
  exact hend _ _ _ _ hP hD hS dJ7_rangeCheck_23922_73
set_option maxHeartbeats 4000000 in
set_option maxRecDepth 100000 in
/-- Arrays.fill(row, from, to, v), of a range that fits -/
theorem zfill4 (l : Launch) (D : va_G) (E : zE) (w : va_W) (q0 : Nat) {a n : Nat} {f : Nat → Int32} (he : w[q0]? = some (a, .inl (E.2.1, n, .inl f))) (sz : Nat) (hn : n < 2147483648) (x1 x2 v : Int32) (h : 0 ≤ x1 ∧ x1 ≤ x2 ∧ x2 ≤ nI n) : zCv l yJ7_fill_fda19 zwJ7_fill_fda19 ({ frames := 1, cells := 0, slots := 0, locals := 22 }) [.ref a, .int x1, .int x2, .int v] D E sz w (w.set q0 (a, .inl (E.2.1, n, .inl (zfl f x1.toNatClampNeg x2.toNatClampNeg v)))) 0 0 := by
  obtain ⟨i1, hi1, rfl⟩ := nI_of (x := x1) (Int32.not_lt.mpr h.1)
  obtain ⟨i2, hi2, rfl⟩ := nI_of (x := x2) (Int32.not_lt.mpr (Int32.le_trans h.1 h.2.1))
  have h12 : i1 ≤ i2 := (nI_leI hi1 hi2).mp h.2.1
  have h2n : i2 ≤ n := (nI_leI hi2 hn).mp h.2.2
  rw [nI_clamp hi1, nI_clamp hi2]
  refine zent_v (cc := cJ7_fill_fda19) (nL := 5) (by decide) rfl (Nat.le_of_ble_eq_true rfl) ?_
  intro p e s m args below meth c Q A hx hb hml hown hts hA hK hP hD hS hE ls hl hend
  have hown : s.vm.findClass RJ7 = some m.cls := hown
  have hl : lv_has ls 5 [(0, .ref a), (1, .int (nI i1)), (2, .int (nI i2)), (3, .int v)] := hl
  have lp : ∀ (k i : Nat), i1 ≤ i → i ≤ i2 → i2 + 1 ≤ i + k → ∀ (H : Heap) (locs : List Loc) (ls : Array Slot), va_P D vwCl (w.set q0 (a, .inl (E.2.1, n, .inl (zfl f i1 i v)))) H → va_D A (w.set q0 (a, .inl (E.2.1, n, .inl (zfl f i1 i v)))) → va_S A s.heap H locs → lv_has ls 5 [(4, .int (nI i)), (0, .ref a), (2, .int (nI i2)), (3, .int v)] → W p l e ({ frames := 1, cells := 0, slots := 0, locals := 22 } : Room) s m args below meth c H locs 0 0 Q (F0 m 10 ls []) := by
    intro k
    induction k with
    | zero => intro i h0 h1 h2; omega
    | succ k ih =>
      intro i h0 h1 h2 H locs ls hP hD hS hl
      refine lv_iload hx hb dJ7_fill_fda19_10 (lv_at hl 0 rfl) ?_
      refine lv_iload_n hx hb dJ7_fill_fda19_12 rfl (lv_at hl 2 rfl) ?_
      refine lv_icmp_ge (tgt := 27) hx hb dJ7_fill_fda19_13 (by decide) (fun c1 => ?_) (fun c1 => ?_)
      · have hi : i = i2 := by
          rcases Nat.lt_or_ge i i2 with h | h
          · exact absurd c1 (nI_ge h hi2)
          · omega
        subst hi
        exact hend _ _ _ _ hP hD hS dJ7_fill_fda19_27
      · have hi : i < i2 := by
          rcases Nat.lt_or_ge i i2 with h | h
          · exact h
          · exact absurd (nI_le h (by omega)) c1
        refine lv_aload_n hx hb dJ7_fill_fda19_16 rfl (lv_at hl 1 rfl) ?_
        refine lv_iload hx hb dJ7_fill_fda19_17 (lv_at hl 0 rfl) ?_
        refine lv_iload_n hx hb dJ7_fill_fda19_19 rfl (lv_at hl 3 rfl) ?_
        refine va_iast hx hb hK hP hD hS q0 1 (zset_get he _) rfl (vp_in_nI (Nat.lt_of_lt_of_le hi h2n) hn) dJ7_fill_fda19_20 (fun H locs hP hD hS => ?_)
        rw [List.set_set, nI_clamp (by omega), zfl_s f h0] at hP hD
        refine lv_iinc (v := nI (i + 1)) (lv' := [(4, .int (nI (i + 1))), (0, .ref a), (2, .int (nI i2)), (3, .int v)]) hx hb dJ7_fill_fda19_21 hl (k := 0) rfl (nI_1 i) (by decide) rfl (fun ls hl => ?_)
        refine lv_goto (tgt := 10) hx hb dJ7_fill_fda19_24 (by decide) ?_
        exact ih (i + 1) (by omega) hi (by omega) _ _ _ hP hD hS hl
  refine lv_aload_n hx hb dJ7_fill_fda19_0 rfl (lv_at hl 0 rfl) ?_
  refine va_alen hx hb hK hP q0 1 he rfl (v := nI n) rfl dJ7_fill_fda19_1 ?_
  refine lv_iload_n hx hb dJ7_fill_fda19_2 rfl (lv_at hl 1 rfl) ?_
  refine lv_iload_n hx hb dJ7_fill_fda19_3 rfl (lv_at hl 2 rfl) ?_
  refine zcall_v (va_runS (As := [.int (nI n), .int (nI i1), .int (nI i2)]) (rest := []) ⟨hx, hb, hml, hown, hts⟩ (zrange l D E w s.heap.size (nI n) (nI i1) (nI i2) h) (va_cwS 3 hts (zgS k1_27 k1_28 k0_3 k1_29) rfl rfl rfl (by decide +kernel) ⟨Nat.le_of_ble_eq_true rfl, Nat.le_of_ble_eq_true rfl⟩) (zps hE hS hA hK hP hD) rfl rfl hl.1 rfl (lv_room (Nat.le_of_ble_eq_true rfl)) dJ7_fill_fda19_4 ⟨Nat.zero_le _, Nat.zero_le _⟩) hD hS hA (fun H locs hP hD hS => ?_)
  refine lv_iload_n hx hb dJ7_fill_fda19_7 rfl (lv_at hl 1 rfl) ?_
  refine lv_istore (lv' := [(4, .int (nI i1)), (0, .ref a), (1, .int (nI i1)), (2, .int (nI i2)), (3, .int v)]) hx hb dJ7_fill_fda19_8 hl (by decide) rfl (fun ls hl => ?_)
  rw [← zset_self he, ← zfl_0 f i1 v] at hP hD
  exact lp (i2 + 1) i1 (Nat.le_refl _) h12 (by omega) _ _ _ hP hD hS (lv_sub hl [0, 1, 3, 4] rfl)
theorem zlk_0_1 {x : Int32} (h0 : ¬ x = 0) (h1 : ¬ x = 1) : Op.lookupswitch.offset [(0, 27), (1, 30)] 33 x.toInt = 33 := by
  have g0 : ¬ (x.toInt = 0) := fun h => h0 (Int32.toInt_inj.mp h)
  have g1 : ¬ (x.toInt = 1) := fun h => h1 (Int32.toInt_inj.mp h)
  have g2 : ¬ (0 = x.toInt) := fun h => g0 h.symm
  have g3 : ¬ (1 = x.toInt) := fun h => g1 h.symm
  simp [Op.lookupswitch.offset_cons, Op.lookupswitch.offset_nil, g0, g1, g2, g3]
theorem znar0 : narrow .boolean (.int 0) = .int 0 := rfl
theorem znar1 : narrow .boolean (.int 1) = .int 1 := rfl
