abbrev zFl : List Cond := flatC (Jvm.Cond.and given_1 narrow_1)
theorem zm1 : ∀ i : Nat, i < 12 → Cond.exactly (.string RX6 (zsi.getD i 0)) "java/lang/String" ∈ zFl := by decide +kernel
theorem zm2 : ∀ i : Nat, i < 12 → Cond.eq (.field (.string RX6 (zsi.getD i 0)) "java/lang/String" "coder" "B") (.int 0) ∈ zFl := by decide +kernel
theorem zm3 : ∀ i : Nat, i < 12 → Cond.arrayOf (.field (.string RX6 (zsi.getD i 0)) "java/lang/String" "value" "[B") .byte ∈ zFl := by decide +kernel
theorem zm4 : ∀ i : Nat, i < 12 → Cond.eq (.length (.field (.string RX6 (zsi.getD i 0)) "java/lang/String" "value" "[B")) (.int (Int32.ofNat (zsl.getD i 0))) ∈ zFl := by decide +kernel
theorem zm5 : ∀ i : Nat, i < 12 → ∀ j : Nat, j < zsl.getD i 0 → Cond.eq (.elem (.field (.string RX6 (zsi.getD i 0)) "java/lang/String" "value" "[B") (.int (Int32.ofNat j))) (.int ((zsb.getD i []).getD j 0)) ∈ zFl := by decide +kernel
theorem zm6 : ∀ i : Nat, i < 12 → ∀ j : Nat, j < 12 → i ≠ j → Cond.not (Cond.eq (.string RX6 (zsi.getD i 0)) (.string RX6 (zsi.getD j 0))) ∈ zFl ∨ Cond.not (Cond.eq (.string RX6 (zsi.getD j 0)) (.string RX6 (zsi.getD i 0))) ∈ zFl := by decide +kernel
theorem zm7 {args : Array Value} {s : State} (hts : ∀ w ∈ lw_tbl, w.before args s = true) : ∀ i : Nat, i < 12 → (Cond.stringRef RX6 (zsi.getD i 0) (zst.getD i "")).before args s = true := by
  intro i hi
  rcases (show i = 0 ∨ i = 1 ∨ i = 2 ∨ i = 3 ∨ i = 4 ∨ i = 5 ∨ i = 6 ∨ i = 7 ∨ i = 8 ∨ i = 9 ∨ i = 10 ∨ i = 11 by omega) with rfl | rfl | rfl | rfl | rfl | rfl | rfl | rfl | rfl | rfl | rfl | rfl
  · exact (hts (.stringRef RX6 50 "law") (List.mem_append_right _ (List.mem_append_right _ (List.mem_append_left _ (List.mem_of_getElem? (i := 125) rfl)))))
  · exact (hts (.stringRef RX6 56 "fresh") (List.mem_append_right _ (List.mem_append_right _ (List.mem_append_left _ (List.mem_of_getElem? (i := 186) rfl)))))
  · exact (hts (.stringRef RX6 64 "old") (List.mem_append_right _ (List.mem_append_right _ (List.mem_append_left _ (List.mem_of_getElem? (i := 187) rfl)))))
  · exact (hts (.stringRef RX6 76 "worth") (List.mem_append_right _ (List.mem_append_right _ (List.mem_append_left _ (List.mem_of_getElem? (i := 201) rfl)))))
  · exact (hts (.stringRef RX6 86 "chest") (List.mem_append_right _ (List.mem_append_right _ (List.mem_append_left _ (List.mem_of_getElem? (i := 214) rfl)))))
  · exact (hts (.stringRef RX6 97 "keeper") (List.mem_append_right _ (List.mem_append_right _ (List.mem_append_left _ (List.mem_of_getElem? (i := 219) rfl)))))
  · exact (hts (.stringRef RX6 113 "news") (List.mem_append_right _ (List.mem_append_right _ (List.mem_append_right _ (List.mem_append_left _ (List.mem_of_getElem? (i := 72) rfl))))))
  · exact (hts (.stringRef RX6 128 "now") (List.mem_append_right _ (List.mem_append_right _ (List.mem_append_left _ (List.mem_of_getElem? (i := 228) rfl)))))
  · exact (hts (.stringRef RX6 130 "age") (List.mem_append_right _ (List.mem_append_right _ (List.mem_append_left _ (List.mem_of_getElem? (i := 229) rfl)))))
  · exact (hts (.stringRef RX6 132 "watch") (List.mem_append_right _ (List.mem_append_right _ (List.mem_append_left _ (List.mem_of_getElem? (i := 230) rfl)))))
  · exact (hts (.stringRef RX6 134 "copies") (List.mem_append_right _ (List.mem_append_right _ (List.mem_append_left _ (List.mem_of_getElem? (i := 231) rfl)))))
  · exact (hts (.stringRef RX6 136 "silent") (List.mem_append_right _ (List.mem_append_right _ (List.mem_append_left _ (List.mem_of_getElem? (i := 232) rfl)))))
theorem zst1 {args : Array Value} {s : State} (h : (Cond.eq (.static "java/lang/String" "COMPACT_STRINGS" "Z") (.int 1)).before args s = true) : (Term.static "java/lang/String" "COMPACT_STRINGS" "Z").eval args s none [] s = some (.int 1) := va_eqi h
set_option maxHeartbeats 2000000 in
set_option maxRecDepth 100000 in
theorem z_entry {p : Program} {s : State} {m : MethodId} {meth : Method} {c : Code} {b L : Nat} {xs : Nat → Int32} (C0 : lw_At p s m meth c b L xs) : ∃ (D : va_G) (cI cB cZ cO : ClassId) (adK adV : Nat → Nat), ∀ ad : Nat → Nat, va_K D vwCl (zty (ad, cI, cB, cZ, cO, adK, adV)) s ∧ zSt (ad, cI, cB, cZ, cO, adK, adV) (fun q : Nat => s.heap.size ≤ q) s s.heap ∧ va_AO RX3 s := by
  obtain ⟨hx, hb, hr, hml, hown, hts, hX, hbl, hlocks, hgv⟩ := C0
  have hs := flat_of_before _ hgv
  have hz : ∀ w ∈ zB, w.before #[Value.ref b] s = true := fun w h => hts w (zB_in h)
  have hA : ∀ a : Nat, a < s.heap.size → ¬ (fun q : Nat => s.heap.size ≤ q) a := fun a h h2 => absurd h2 (Nat.not_le.mpr h)
  obtain ⟨c0, i0, hk0⟩ := u_known (C := RX0) (T := TX0) (N := 3) (n := 3) hz iX0 (hz _ k2_25)
  obtain ⟨c1, i1, hk1⟩ := u_known (C := RX1) (T := TX1) (N := 3) (n := 3) hz iX1 (hz _ k2_45)
  obtain ⟨c2, i2, hk2⟩ := u_known (C := RX2) (T := TX2) (N := 7) (n := 7) hz iX2 (hz _ k0_85)
  obtain ⟨c3, i3, hk3⟩ := u_known (C := RX4) (T := TX4) (N := 19) (n := 19) hz iX4 (hz _ k0_91)
  obtain ⟨c4, i4, hk4⟩ := u_known (C := RX5) (T := TX5) (N := 3) (n := 3) hz iX5 (hz _ k1_237)
  obtain ⟨c5, i5, hk5⟩ := u_known (C := RX6) (T := TX6) (N := 8) (n := 8) hz iX6 (hz _ k0_50)
  obtain ⟨c6, i6, hk6⟩ := u_known (C := RX7) (T := TX7) (N := 3) (n := 3) hz iX7 (hz _ k0_30)
  obtain ⟨c7, i7, hk7⟩ := u_known (C := RX8) (T := TX8) (N := 3) (n := 3) hz iX8 (hz _ k2_55)
  obtain ⟨c8, i8, hk8⟩ := u_known (C := RX9) (T := TX9) (N := 2) (n := 2) hz iX9 (hz _ k0_201)
  obtain ⟨c9, i9, hk9⟩ := u_known (C := RX10) (T := TX10) (N := 3) (n := 3) hz iX10 (hz _ k2_35)
  obtain ⟨c10, i10, hk10⟩ := u_known (C := RX11) (T := TX11) (N := 9) (n := 9) hz iX11 (hz _ k0_22)
  obtain ⟨c11, i11, hk11⟩ := u_known (C := RX12) (T := TX12) (N := 31) (n := 31) hz iX12 (hz _ k4_61)
  obtain ⟨cI, kI, pI, aI1, aI2, aI3⟩ := Cond.arrayClass_spec (hz _ k0_48)
  obtain ⟨cB, kB, pB, aB1, aB2, aB3⟩ := Cond.arrayClass_spec (hz _ k0_83)
  obtain ⟨cZ, kZ, pZ, aZ1, aZ2, aZ3⟩ := Cond.arrayClass_spec (hz _ k4_160)
  have hAO : va_AO RX3 s := va_AO.of (hts (.arrayOver (.object "OldNews$Keeper")) (List.mem_append_right _ (List.mem_append_left _ (List.mem_of_getElem? (i := 97) rfl))))
  obtain ⟨pO, cO, kO, o1, -, o2, o3, o4⟩ := Cond.arrayOver_spec (va_AO.use (A := #[Value.ref b]) hAO)
  obtain ⟨adK, adV, hV, hT⟩ := vk_Sof (A := fun q : Nat => s.heap.size ≤ q) (N := 12) (tm := fun i => Term.string RX6 (zsi.getD i 0)) (len := zsl) (byt := zsb) (by decide +kernel) (fun i hi => hs _ (zm1 i hi)) (fun i hi => hs _ (zm2 i hi)) (fun i hi => hs _ (zm3 i hi)) (fun i hi => hs _ (zm4 i hi)) (fun i hi j hj => hs _ (zm5 i hi j hj)) (fun i j hi hj hij => (zm6 i hi j hj hij).imp (hs _) (hs _)) hA
  refine ⟨(fun k => if k = 0 then c0 else if k = 1 then c1 else if k = 2 then c2 else if k = 3 then c3 else if k = 4 then c4 else if k = 5 then c5 else if k = 6 then c6 else if k = 7 then c7 else if k = 8 then c8 else if k = 9 then c9 else if k = 10 then c10 else c11, fun k => if k = 0 then i0 else if k = 1 then i1 else if k = 2 then i2 else if k = 3 then i3 else if k = 4 then i4 else if k = 5 then i5 else if k = 6 then i6 else if k = 7 then i7 else if k = 8 then i8 else if k = 9 then i9 else if k = 10 then i10 else i11), cI, cB, cZ, cO, adK, adV, fun ad => ⟨⟨?_, ?_⟩, ⟨hV, ?_, ?_, ?_, ?_⟩, hAO⟩⟩
  · intro k q hq
    match k, hq with
    | 0, hq => cases hq; exact hk0
    | 1, hq => cases hq; exact hk1
    | 2, hq => cases hq; exact hk2
    | 3, hq => cases hq; exact hk3
    | 4, hq => cases hq; exact hk4
    | 5, hq => cases hq; exact hk5
    | 6, hq => cases hq; exact hk6
    | 7, hq => cases hq; exact hk7
    | 8, hq => cases hq; exact hk8
    | 9, hq => cases hq; exact hk9
    | 10, hq => cases hq; exact hk10
    | 11, hq => cases hq; exact hk11
    | k + 12, hq => simp [vwCl] at hq
  · intro k q hq
    match k, hq with
    | 0, hq => cases hq; exact ⟨fun n z => ⟨fun k h => (by cases h), kB, aB2, pB, aB3⟩, aB1⟩
    | 1, hq => cases hq; exact ⟨fun n z => ⟨fun k h => (by cases h), kI, aI2, pI, aI3⟩, aI1⟩
    | 2, hq => cases hq; exact ⟨fun n z => ⟨fun k h => (by cases h), kZ, aZ2, pZ, aZ3⟩, aZ1⟩
    | 3, hq => cases hq; exact ⟨fun n z => ⟨fun k h => (by cases h), kO, o2, pO, o3⟩, kO, pO, o2, o3, o1, o4⟩
    | k + 4, hq => simp [zty] at hq
  · exact va_Zof (hts (.laysStatic "java/lang/String" "COMPACT_STRINGS" "Z") (List.mem_append_right _ (List.mem_append_right _ (List.mem_append_left _ (List.mem_of_getElem? (i := 143) rfl))))) (hts (.initialized "java/lang/String") (List.mem_append_right _ (List.mem_append_left _ (List.mem_of_getElem? (i := 11) rfl)))) (zst1 (hs (.eq (.static "java/lang/String" "COMPACT_STRINGS" "Z") (.int 1)) (by decide +kernel))) hA
  · exact va_Zqof (hts (.laysStatic "jdk/internal/util/Preconditions" "SIOOBE_FORMATTER" "Ljava/util/function/BiFunction;") (List.mem_append_right _ (List.mem_append_right _ (List.mem_append_left _ (List.mem_of_getElem? (i := 159) rfl))))) (hts (.initialized "jdk/internal/util/Preconditions") (List.mem_append_right _ (List.mem_append_left _ (List.mem_of_getElem? (i := 13) rfl)))) (hs (.isRef (.static "jdk/internal/util/Preconditions" "SIOOBE_FORMATTER" "Ljava/util/function/BiFunction;")) (by decide +kernel)) hA
  · intro i hi
    exact vk_R.of (zm7 hts i hi) (hT i hi)
  · refine ⟨?_, va_Nw.of rfl (hts (.castable RX1 RX0) (List.mem_append_right _ (List.mem_append_right _ (List.mem_append_right _ (List.mem_append_right _ (List.mem_append_right _ (List.mem_append_right _ (List.mem_append_right _ (List.mem_of_getElem? (i := 44) rfl))))))))), va_Nw.of rfl (hts (.castable RX10 RX0) (List.mem_append_right _ (List.mem_append_right _ (List.mem_append_right _ (List.mem_append_right _ (List.mem_append_right _ (List.mem_append_right _ (List.mem_append_right _ (List.mem_of_getElem? (i := 45) rfl))))))))), va_Nc.of (hs (.not (.castable "OldNews$Now" "OldNews$Age")) (by decide +kernel)), va_Nc.of (hs (.not (.castable "OldNews$Silent" "OldNews$Age")) (by decide +kernel)), va_Nw.of rfl (hts (.declares ⟨"OldNews$Keeper", "sells", "(LOldNews$Land;I)Z"⟩) (List.mem_append_right _ (List.mem_append_right _ (List.mem_append_right _ (List.mem_append_left _ (List.mem_of_getElem? (i := 138) rfl)))))), va_Nw.of rfl (hts (.declares ⟨"OldNews$Keeper", "kindTold", "()I"⟩) (List.mem_append_right _ (List.mem_append_right _ (List.mem_append_right _ (List.mem_append_right _ (List.mem_append_left _ (List.mem_of_getElem? (i := 180) rfl))))))), ?_⟩
    · intro C hC
      simp only [List.mem_cons, List.not_mem_nil, or_false] at hC
      rcases hC with rfl | rfl | rfl | rfl | rfl
      · exact va_Nw.of rfl (hts (.castable RX0 RX3) (List.mem_append_right _ (List.mem_append_right _ (List.mem_append_right _ (List.mem_append_right _ (List.mem_append_right _ (List.mem_append_right _ (List.mem_append_right _ (List.mem_of_getElem? (i := 47) rfl)))))))))
      · exact va_Nw.of rfl (hts (.castable RX1 RX3) (List.mem_append_right _ (List.mem_append_right _ (List.mem_append_right _ (List.mem_append_right _ (List.mem_append_right _ (List.mem_append_right _ (List.mem_append_right _ (List.mem_of_getElem? (i := 49) rfl)))))))))
      · exact va_Nw.of rfl (hts (.castable RX5 RX3) (List.mem_append_right _ (List.mem_append_right _ (List.mem_append_right _ (List.mem_append_right _ (List.mem_append_right _ (List.mem_append_right _ (List.mem_append_right _ (List.mem_of_getElem? (i := 46) rfl)))))))))
      · exact va_Nw.of rfl (hts (.castable RX8 RX3) (List.mem_append_right _ (List.mem_append_right _ (List.mem_append_right _ (List.mem_append_right _ (List.mem_append_right _ (List.mem_append_right _ (List.mem_append_right _ (List.mem_of_getElem? (i := 50) rfl)))))))))
      · exact va_Nw.of rfl (hts (.castable RX10 RX3) (List.mem_append_right _ (List.mem_append_right _ (List.mem_append_right _ (List.mem_append_right _ (List.mem_append_right _ (List.mem_append_right _ (List.mem_append_right _ (List.mem_of_getElem? (i := 48) rfl)))))))))
    · intro q hq
      simp only [zNl, List.mem_cons, List.not_mem_nil, or_false] at hq
      rcases hq with rfl | rfl | rfl | rfl | rfl | rfl
      · exact va_Nw.of rfl (hts (.methodLinkNest RX6 141 yX11_within "OldNews") (List.mem_append_right _ (List.mem_append_right _ (List.mem_append_left _ (List.mem_of_getElem? (i := 192) rfl)))))
      · exact va_Nw.of rfl (hts (.methodLinkNest RX11 18 yX6_init "OldNews") (List.mem_append_right _ (List.mem_append_left _ (List.mem_of_getElem? (i := 51) rfl))))
      · exact va_Nw.of rfl (hts (.methodLinkNest RX11 25 yX2_init "OldNews") (List.mem_append_right _ (List.mem_append_left _ (List.mem_of_getElem? (i := 86) rfl))))
      · exact va_Nw.of rfl (hts (.methodLinkNest RX11 32 yX9_init "OldNews") (List.mem_append_right _ (List.mem_append_left _ (List.mem_of_getElem? (i := 202) rfl))))
      · exact va_Nw.of rfl (hts (.methodLinkNest RX11 39 yX4_init "OldNews") (List.mem_append_right _ (List.mem_append_left _ (List.mem_of_getElem? (i := 214) rfl))))
      · exact va_Nw.of rfl (hts (.methodLinkNest RX2 11 yX4_init "OldNews") (List.mem_append_right _ (List.mem_append_left _ (List.mem_of_getElem? (i := 92) rfl))))
