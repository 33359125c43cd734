theorem ztab_0_29 {x : Int32} (h0 : ¬ x = 0) (h1 : ¬ x = 1) (h2 : ¬ x = 2) (h3 : ¬ x = 3) (h4 : ¬ x = 4) (h5 : ¬ x = 5) (h6 : ¬ x = 6) (h7 : ¬ x = 7) (h8 : ¬ x = 8) (h9 : ¬ x = 9) (h10 : ¬ x = 10) (h11 : ¬ x = 11) (h12 : ¬ x = 12) (h13 : ¬ x = 13) (h14 : ¬ x = 14) (h15 : ¬ x = 15) (h16 : ¬ x = 16) (h17 : ¬ x = 17) (h18 : ¬ x = 18) (h19 : ¬ x = 19) (h20 : ¬ x = 20) (h21 : ¬ x = 21) (h22 : ¬ x = 22) (h23 : ¬ x = 23) (h24 : ¬ x = 24) (h25 : ¬ x = 25) (h26 : ¬ x = 26) (h27 : ¬ x = 27) (h28 : ¬ x = 28) (h29 : ¬ x = 29) : x.toInt < 0 ∨ 29 < x.toInt := by
  refine Decidable.byContradiction fun h => ?_
  have h2 : x.toInt = 0 ∨ x.toInt = 1 ∨ x.toInt = 2 ∨ x.toInt = 3 ∨ x.toInt = 4 ∨ x.toInt = 5 ∨ x.toInt = 6 ∨ x.toInt = 7 ∨ x.toInt = 8 ∨ x.toInt = 9 ∨ x.toInt = 10 ∨ x.toInt = 11 ∨ x.toInt = 12 ∨ x.toInt = 13 ∨ x.toInt = 14 ∨ x.toInt = 15 ∨ x.toInt = 16 ∨ x.toInt = 17 ∨ x.toInt = 18 ∨ x.toInt = 19 ∨ x.toInt = 20 ∨ x.toInt = 21 ∨ x.toInt = 22 ∨ x.toInt = 23 ∨ x.toInt = 24 ∨ x.toInt = 25 ∨ x.toInt = 26 ∨ x.toInt = 27 ∨ x.toInt = 28 ∨ x.toInt = 29 := by omega
  rcases h2 with q | q | q | q | q | q | q | q | q | q | q | q | q | q | q | q | q | q | q | q | q | q | q | q | q | q | q | q | q | q
  · exact h0 (Int32.toInt_inj.mp q)
  · exact h1 (Int32.toInt_inj.mp q)
  · exact h2 (Int32.toInt_inj.mp q)
  · exact h3 (Int32.toInt_inj.mp q)
  · exact h4 (Int32.toInt_inj.mp q)
  · exact h5 (Int32.toInt_inj.mp q)
  · exact h6 (Int32.toInt_inj.mp q)
  · exact h7 (Int32.toInt_inj.mp q)
  · exact h8 (Int32.toInt_inj.mp q)
  · exact h9 (Int32.toInt_inj.mp q)
  · exact h10 (Int32.toInt_inj.mp q)
  · exact h11 (Int32.toInt_inj.mp q)
  · exact h12 (Int32.toInt_inj.mp q)
  · exact h13 (Int32.toInt_inj.mp q)
  · exact h14 (Int32.toInt_inj.mp q)
  · exact h15 (Int32.toInt_inj.mp q)
  · exact h16 (Int32.toInt_inj.mp q)
  · exact h17 (Int32.toInt_inj.mp q)
  · exact h18 (Int32.toInt_inj.mp q)
  · exact h19 (Int32.toInt_inj.mp q)
  · exact h20 (Int32.toInt_inj.mp q)
  · exact h21 (Int32.toInt_inj.mp q)
  · exact h22 (Int32.toInt_inj.mp q)
  · exact h23 (Int32.toInt_inj.mp q)
  · exact h24 (Int32.toInt_inj.mp q)
  · exact h25 (Int32.toInt_inj.mp q)
  · exact h26 (Int32.toInt_inj.mp q)
  · exact h27 (Int32.toInt_inj.mp q)
  · exact h28 (Int32.toInt_inj.mp q)
  · exact h29 (Int32.toInt_inj.mp q)
theorem zcmp {L i : Nat} (hL : L ≤ 3072) (hi : i ≤ 4000) : nI L - 6 < nI i ↔ L < i + 6 := by
  rcases Nat.lt_or_ge L 6 with h | h
  · refine ⟨fun _ => by omega, fun _ => Int32.lt_of_lt_of_le (b := 0) ?_ (nI_pos' (by omega))⟩
    rcases (show L = 0 ∨ L = 1 ∨ L = 2 ∨ L = 3 ∨ L = 4 ∨ L = 5 by omega) with rfl | rfl | rfl | rfl | rfl | rfl <;> decide
  · have e : nI L - 6 = nI (L - 6) := by
      have h2 : nI L = nI (L - 6) + 6 := by
        rw [show (6 : Int32) = nI 6 from rfl, nI_add, Nat.sub_add_cancel h]
      rw [h2, Int32.add_sub_cancel]
    rw [e, nI_ltI (by omega) (by omega)]
    omega
def zStepAll (N : Nat) (Inv : List Nat → (Nat → zKC) → zNS → zOS → zOS → zOS → zOS → (Nat → zLS) → zMS → Prop) : Prop := zStep_row N Inv ∧ zStep_set N Inv ∧ zStep_copy N Inv ∧ zStep_drop N Inv ∧ zStep_feed N Inv ∧ zStep_land N Inv ∧ zStep_fault N Inv ∧ zStep_value N Inv ∧ zStep_go N Inv ∧ zStep_tell N Inv ∧ zStep_keeper N Inv ∧ zStep_piece N Inv ∧ zStep_alone N Inv ∧ zStep_best N Inv ∧ zStep_two N Inv ∧ zStep_think N Inv ∧ zStep_lostUse N Inv ∧ zStep_silence N Inv ∧ zStep_corner N Inv ∧ zStep_make N Inv ∧ zStep_fit N Inv ∧ zStep_laws N Inv ∧ zStep_image N Inv ∧ zStep_restore N Inv ∧ zStep_kind N Inv ∧ zStep_as N Inv ∧ zStep_ask N Inv ∧ zStep_trace N Inv ∧ zStep_count N Inv ∧ zStep_status N Inv
set_option maxHeartbeats 2000000 in
set_option maxRecDepth 100000 in
/-- THE LAW'S LOOP, open over the thirty steps -/
theorem lw_loop {p : Program} {l : Launch} {e : Env} {s : State} {m : MethodId} {below : List Frame} {meth : Method} {c : Code} {D : va_G} {E : zE} {b L : Nat} {xs : Nat → Int32} (C0 : zLwk p s m c D E (fun q : Nat => s.heap.size ≤ q) b L xs) (hr : meth.sig.returnType = ret) (hlocks : meth.locks = false) {N : Nat} {Inv : List Nat → (Nat → zKC) → zNS → zOS → zOS → zOS → zOS → (Nat → zLS) → zMS → Prop} (hAll : zStepAll N Inv) (hOn : ∀ (KL : List Nat) (kc : Nat → zKC) (on : zNS) (rw rd ft tr : zOS) (la : Nat → zLS) (mo : zMS), Inv KL kc on rw rd ft tr la mo → zOn on) :
    ∀ (n i cells slots : Nat), L + 6 < i + 6 * n → i ≤ L + 6 → cells + 8 * n ≤ 600000 → slots + 24 * n ≤ 7302250 → ∀ (KL : List Nat) (kc : Nat → zKC) (on : zNS) (rw rd ft tr : zOS) (la : Nat → zLS) (mo : zMS), Inv KL kc on rw rd ft tr la mo → ∀ (H : Heap) (locs : List Loc) (ls : Array Slot), va_P D vwCl (zW E KL kc on rw rd ft tr la mo) H → va_D (fun q : Nat => s.heap.size ≤ q) (zW E KL kc on rw rd ft tr la mo) → va_S (fun q : Nat => s.heap.size ≤ q) s.heap H locs → lv_has ls 4 [(3, .int (nI i)), (0, .ref b), (1, .ref (E.1 0)), (2, .ref (E.1 68))] → W p l e room_1 s m #[Value.ref b] below meth c H locs cells slots (lw_Z below #[Value.ref b] s) (F0 m 18 ls []) := by
  obtain ⟨hx, hb, hml, hown, hts, hX, hbl, hbA, hA, hK, hE, hL⟩ := id C0
  intro n
  induction n with
  | zero => intro i cells slots h1 h2; omega
  | succ n ih =>
    intro i cells slots h1 h2 h3 h4 KL kc on rw rd ft tr la mo hInv H locs ls hP hD hS hl
    refine lv_iload_n hx hb dL_law_18 rfl (lv_at hl 0 rfl) ?_
    refine lv_aload_n hx hb dL_law_19 rfl (lv_at hl 1 rfl) ?_
    refine va_slen hx hb hX hbl hbA hS dL_law_20 ?_
    refine lv_bipush (v := 6) hx hb dL_law_21 (by decide) ?_
    refine lv_isub hx hb dL_law_23 ?_
    refine lv_icmp_gt (tgt := 1204) hx hb dL_law_24 (by decide) (fun c1 => ?_) (fun c1 => ?_)
    · refine lv_iconst (v := 1) hx hb dL_law_1204 (by decide) ?_
      refine va_forget (fun q hq => hS.2.2 q hq) ?_
      refine W.widen (k := 600000) (n := 7302250) (by omega) (by omega) ?_
      exact lw_ret hx hb hr hlocks dL_law_1205
    · have hi6 : i + 6 ≤ L := by
        rcases Nat.lt_or_ge L (i + 6) with q | q
        · exact absurd ((zcmp hL (by omega)).mpr q) c1
        · exact q
      refine lv_aload_n hx hb dL_law_27 rfl (lv_at hl 1 rfl) ?_
      refine lv_iload_n hx hb dL_law_28 rfl (lv_at hl 0 rfl) ?_
      refine va_sld hx hb hX hbl hbA hS (zin (k := 0) (i := i) (by omega) hL rfl) dL_law_29 ?_
      refine lv_bipush (v := 31) hx hb dL_law_30 (by decide) ?_
      refine lv_iand hx hb dL_law_32 ?_
      refine lv_topi (fun v ev => ?_)
      have kk : ∀ (KL : List Nat) (kc : Nat → zKC) (on : zNS) (rw rd ft tr : zOS) (la : Nat → zLS) (mo : zMS), Inv KL kc on rw rd ft tr la mo → ∀ (H : Heap) (locs : List Loc) (ls : Array Slot), va_P D vwCl (zW E KL kc on rw rd ft tr la mo) H → va_D (fun q : Nat => s.heap.size ≤ q) (zW E KL kc on rw rd ft tr la mo) → va_S (fun q : Nat => s.heap.size ≤ q) s.heap H locs → lv_has ls 4 [(3, .int (nI i)), (0, .ref b), (1, .ref (E.1 0)), (2, .ref (E.1 68))] → W p l e room_1 s m #[Value.ref b] below meth c H locs (cells + 8) (slots + 24) (lw_Z below #[Value.ref b] s) (F0 m 1198 ls []) := by
        intro KL kc on rw rd ft tr la mo hInv H locs ls hP hD hS hl
        refine lv_iinc (v := nI (i + 6)) (lv' := [(3, .int (nI (i + 6))), (0, .ref b), (1, .ref (E.1 0)), (2, .ref (E.1 68))]) hx hb dL_law_1198 hl (k := 0) rfl (nI_add i 6) (by decide) rfl (fun ls hl => ?_)
        refine lv_goto (tgt := 18) hx hb dL_law_1201 (by decide) ?_
        exact ih (i + 6) (cells + 8) (slots + 24) (by omega) (by omega) (by omega) (by omega) KL kc on rw rd ft tr la mo hInv H locs ls hP hD hS hl
      obtain ⟨s0, s1, s2, s3, s4, s5, s6, s7, s8, s9, s10, s11, s12, s13, s14, s15, s16, s17, s18, s19, s20, s21, s22, s23, s24, s25, s26, s27, s28, s29⟩ := hAll
      by_cases g0 : v = 0
      · refine lv_tableIn (off := 135) (tgt := 168) hx hb dL_law_33 (by rw [g0]; decide) (by rw [g0]; decide) (by rw [g0]; decide) (by decide) ?_
        exact lwc_row C0 s0 hi6 KL kc on rw rd ft tr la mo hInv (hOn _ _ _ _ _ _ _ _ _ hInv) (by omega) (by omega) hP hD hS hl kk
      by_cases g1 : v = 1
      · refine lv_tableIn (off := 178) (tgt := 211) hx hb dL_law_33 (by rw [g1]; decide) (by rw [g1]; decide) (by rw [g1]; decide) (by decide) ?_
        exact lwc_set C0 s1 hi6 KL kc on rw rd ft tr la mo hInv (hOn _ _ _ _ _ _ _ _ _ hInv) (by omega) (by omega) hP hD hS hl kk
      by_cases g2 : v = 2
      · refine lv_tableIn (off := 221) (tgt := 254) hx hb dL_law_33 (by rw [g2]; decide) (by rw [g2]; decide) (by rw [g2]; decide) (by decide) ?_
        exact lwc_copy C0 s2 hi6 KL kc on rw rd ft tr la mo hInv (hOn _ _ _ _ _ _ _ _ _ hInv) (by omega) (by omega) hP hD hS hl kk
      by_cases g3 : v = 3
      · refine lv_tableIn (off := 284) (tgt := 317) hx hb dL_law_33 (by rw [g3]; decide) (by rw [g3]; decide) (by rw [g3]; decide) (by decide) ?_
        exact lwc_drop C0 s3 hi6 KL kc on rw rd ft tr la mo hInv (hOn _ _ _ _ _ _ _ _ _ hInv) (by omega) (by omega) hP hD hS hl kk
      by_cases g4 : v = 4
      · refine lv_tableIn (off := 307) (tgt := 340) hx hb dL_law_33 (by rw [g4]; decide) (by rw [g4]; decide) (by rw [g4]; decide) (by decide) ?_
        exact lwc_feed C0 s4 hi6 KL kc on rw rd ft tr la mo hInv (hOn _ _ _ _ _ _ _ _ _ hInv) (by omega) (by omega) hP hD hS hl kk
      by_cases g5 : v = 5
      · refine lv_tableIn (off := 370) (tgt := 403) hx hb dL_law_33 (by rw [g5]; decide) (by rw [g5]; decide) (by rw [g5]; decide) (by decide) ?_
        exact lwc_land C0 s5 hi6 KL kc on rw rd ft tr la mo hInv (hOn _ _ _ _ _ _ _ _ _ hInv) (by omega) (by omega) hP hD hS hl kk
      by_cases g6 : v = 6
      · refine lv_tableIn (off := 383) (tgt := 416) hx hb dL_law_33 (by rw [g6]; decide) (by rw [g6]; decide) (by rw [g6]; decide) (by decide) ?_
        exact lwc_fault C0 s6 hi6 KL kc on rw rd ft tr la mo hInv (hOn _ _ _ _ _ _ _ _ _ hInv) (by omega) (by omega) hP hD hS hl kk
      by_cases g7 : v = 7
      · refine lv_tableIn (off := 396) (tgt := 429) hx hb dL_law_33 (by rw [g7]; decide) (by rw [g7]; decide) (by rw [g7]; decide) (by decide) ?_
        exact lwc_value C0 s7 hi6 KL kc on rw rd ft tr la mo hInv (hOn _ _ _ _ _ _ _ _ _ hInv) (by omega) (by omega) hP hD hS hl kk
      by_cases g8 : v = 8
      · refine lv_tableIn (off := 419) (tgt := 452) hx hb dL_law_33 (by rw [g8]; decide) (by rw [g8]; decide) (by rw [g8]; decide) (by decide) ?_
        exact lwc_go C0 s8 hi6 KL kc on rw rd ft tr la mo hInv (hOn _ _ _ _ _ _ _ _ _ hInv) (by omega) (by omega) hP hD hS hl kk
      by_cases g9 : v = 9
      · refine lv_tableIn (off := 452) (tgt := 485) hx hb dL_law_33 (by rw [g9]; decide) (by rw [g9]; decide) (by rw [g9]; decide) (by decide) ?_
        exact lwc_tell C0 s9 hi6 KL kc on rw rd ft tr la mo hInv (hOn _ _ _ _ _ _ _ _ _ hInv) (by omega) (by omega) hP hD hS hl kk
      by_cases g10 : v = 10
      · refine lv_tableIn (off := 495) (tgt := 528) hx hb dL_law_33 (by rw [g10]; decide) (by rw [g10]; decide) (by rw [g10]; decide) (by decide) ?_
        exact lwc_keeper C0 s10 hi6 KL kc on rw rd ft tr la mo hInv (hOn _ _ _ _ _ _ _ _ _ hInv) (by omega) (by omega) hP hD hS hl kk
      by_cases g11 : v = 11
      · refine lv_tableIn (off := 528) (tgt := 561) hx hb dL_law_33 (by rw [g11]; decide) (by rw [g11]; decide) (by rw [g11]; decide) (by decide) ?_
        exact lwc_piece C0 s11 hi6 KL kc on rw rd ft tr la mo hInv (hOn _ _ _ _ _ _ _ _ _ hInv) (by omega) (by omega) hP hD hS hl kk
      by_cases g12 : v = 12
      · refine lv_tableIn (off := 561) (tgt := 594) hx hb dL_law_33 (by rw [g12]; decide) (by rw [g12]; decide) (by rw [g12]; decide) (by decide) ?_
        exact lwc_alone C0 s12 hi6 KL kc on rw rd ft tr la mo hInv (hOn _ _ _ _ _ _ _ _ _ hInv) (by omega) (by omega) hP hD hS hl kk
      by_cases g13 : v = 13
      · refine lv_tableIn (off := 604) (tgt := 637) hx hb dL_law_33 (by rw [g13]; decide) (by rw [g13]; decide) (by rw [g13]; decide) (by decide) ?_
        exact lwc_best C0 s13 hi6 KL kc on rw rd ft tr la mo hInv (hOn _ _ _ _ _ _ _ _ _ hInv) (by omega) (by omega) hP hD hS hl kk
      by_cases g14 : v = 14
      · refine lv_tableIn (off := 627) (tgt := 660) hx hb dL_law_33 (by rw [g14]; decide) (by rw [g14]; decide) (by rw [g14]; decide) (by decide) ?_
        exact lwc_two C0 s14 hi6 KL kc on rw rd ft tr la mo hInv (hOn _ _ _ _ _ _ _ _ _ hInv) (by omega) (by omega) hP hD hS hl kk
      by_cases g15 : v = 15
      · refine lv_tableIn (off := 670) (tgt := 703) hx hb dL_law_33 (by rw [g15]; decide) (by rw [g15]; decide) (by rw [g15]; decide) (by decide) ?_
        exact lwc_think C0 s15 hi6 KL kc on rw rd ft tr la mo hInv (hOn _ _ _ _ _ _ _ _ _ hInv) (by omega) (by omega) hP hD hS hl kk
      by_cases g16 : v = 16
      · refine lv_tableIn (off := 713) (tgt := 746) hx hb dL_law_33 (by rw [g16]; decide) (by rw [g16]; decide) (by rw [g16]; decide) (by decide) ?_
        exact lwc_lostUse C0 s16 hi6 KL kc on rw rd ft tr la mo hInv (hOn _ _ _ _ _ _ _ _ _ hInv) (by omega) (by omega) hP hD hS hl kk
      by_cases g17 : v = 17
      · refine lv_tableIn (off := 756) (tgt := 789) hx hb dL_law_33 (by rw [g17]; decide) (by rw [g17]; decide) (by rw [g17]; decide) (by decide) ?_
        exact lwc_silence C0 s17 hi6 KL kc on rw rd ft tr la mo hInv (hOn _ _ _ _ _ _ _ _ _ hInv) (by omega) (by omega) hP hD hS hl kk
      by_cases g18 : v = 18
      · refine lv_tableIn (off := 819) (tgt := 852) hx hb dL_law_33 (by rw [g18]; decide) (by rw [g18]; decide) (by rw [g18]; decide) (by decide) ?_
        exact lwc_corner C0 s18 hi6 KL kc on rw rd ft tr la mo hInv (hOn _ _ _ _ _ _ _ _ _ hInv) (by omega) (by omega) hP hD hS hl kk
      by_cases g19 : v = 19
      · refine lv_tableIn (off := 872) (tgt := 905) hx hb dL_law_33 (by rw [g19]; decide) (by rw [g19]; decide) (by rw [g19]; decide) (by decide) ?_
        exact lwc_make C0 s19 hi6 KL kc on rw rd ft tr la mo hInv (hOn _ _ _ _ _ _ _ _ _ hInv) (by omega) (by omega) hP hD hS hl kk
      by_cases g20 : v = 20
      · refine lv_tableIn (off := 915) (tgt := 948) hx hb dL_law_33 (by rw [g20]; decide) (by rw [g20]; decide) (by rw [g20]; decide) (by decide) ?_
        exact lwc_fit C0 s20 hi6 KL kc on rw rd ft tr la mo hInv (hOn _ _ _ _ _ _ _ _ _ hInv) (by omega) (by omega) hP hD hS hl kk
      by_cases g21 : v = 21
      · refine lv_tableIn (off := 948) (tgt := 981) hx hb dL_law_33 (by rw [g21]; decide) (by rw [g21]; decide) (by rw [g21]; decide) (by decide) ?_
        exact lwc_laws C0 s21 hi6 KL kc on rw rd ft tr la mo hInv (hOn _ _ _ _ _ _ _ _ _ hInv) (by omega) (by omega) hP hD hS hl kk
      by_cases g22 : v = 22
      · refine lv_tableIn (off := 971) (tgt := 1004) hx hb dL_law_33 (by rw [g22]; decide) (by rw [g22]; decide) (by rw [g22]; decide) (by decide) ?_
        exact lwc_image C0 s22 hi6 KL kc on rw rd ft tr la mo hInv (hOn _ _ _ _ _ _ _ _ _ hInv) (by omega) (by omega) hP hD hS hl kk
      by_cases g23 : v = 23
      · refine lv_tableIn (off := 994) (tgt := 1027) hx hb dL_law_33 (by rw [g23]; decide) (by rw [g23]; decide) (by rw [g23]; decide) (by decide) ?_
        exact lwc_restore C0 s23 hi6 KL kc on rw rd ft tr la mo hInv (hOn _ _ _ _ _ _ _ _ _ hInv) (by omega) (by omega) hP hD hS hl kk
      by_cases g24 : v = 24
      · refine lv_tableIn (off := 1017) (tgt := 1050) hx hb dL_law_33 (by rw [g24]; decide) (by rw [g24]; decide) (by rw [g24]; decide) (by decide) ?_
        exact lwc_kind C0 s24 hi6 KL kc on rw rd ft tr la mo hInv (hOn _ _ _ _ _ _ _ _ _ hInv) (by omega) (by omega) hP hD hS hl kk
      by_cases g25 : v = 25
      · refine lv_tableIn (off := 1040) (tgt := 1073) hx hb dL_law_33 (by rw [g25]; decide) (by rw [g25]; decide) (by rw [g25]; decide) (by decide) ?_
        exact lwc_as C0 s25 hi6 KL kc on rw rd ft tr la mo hInv (hOn _ _ _ _ _ _ _ _ _ hInv) (by omega) (by omega) hP hD hS hl kk
      by_cases g26 : v = 26
      · refine lv_tableIn (off := 1073) (tgt := 1106) hx hb dL_law_33 (by rw [g26]; decide) (by rw [g26]; decide) (by rw [g26]; decide) (by decide) ?_
        exact lwc_ask C0 s26 hi6 KL kc on rw rd ft tr la mo hInv (hOn _ _ _ _ _ _ _ _ _ hInv) (by omega) (by omega) hP hD hS hl kk
      by_cases g27 : v = 27
      · refine lv_tableIn (off := 1106) (tgt := 1139) hx hb dL_law_33 (by rw [g27]; decide) (by rw [g27]; decide) (by rw [g27]; decide) (by decide) ?_
        exact lwc_trace C0 s27 hi6 KL kc on rw rd ft tr la mo hInv (hOn _ _ _ _ _ _ _ _ _ hInv) (by omega) (by omega) hP hD hS hl kk
      by_cases g28 : v = 28
      · refine lv_tableIn (off := 1129) (tgt := 1162) hx hb dL_law_33 (by rw [g28]; decide) (by rw [g28]; decide) (by rw [g28]; decide) (by decide) ?_
        exact lwc_count C0 s28 hi6 KL kc on rw rd ft tr la mo hInv (hOn _ _ _ _ _ _ _ _ _ hInv) (by omega) (by omega) hP hD hS hl kk
      by_cases g29 : v = 29
      · refine lv_tableIn (off := 1152) (tgt := 1185) hx hb dL_law_33 (by rw [g29]; decide) (by rw [g29]; decide) (by rw [g29]; decide) (by decide) ?_
        exact lwc_status C0 s29 hi6 KL kc on rw rd ft tr la mo hInv (hOn _ _ _ _ _ _ _ _ _ hInv) (by omega) (by omega) hP hD hS hl kk
      refine lv_tableOut (tgt := 1198) hx hb dL_law_33 (ztab_0_29 g0 g1 g2 g3 g4 g5 g6 g7 g8 g9 g10 g11 g12 g13 g14 g15 g16 g17 g18 g19 g20 g21 g22 g23 g24 g25 g26 g27 g28 g29) (by decide) ?_
      refine W.widen (k := cells + 8) (n := slots + 24) (by omega) (by omega) ?_
      exact kk _ _ _ _ _ _ _ _ _ hInv _ _ _ hP hD hS hl
