/-! THE PURE LAYER: fit: a year of the land on trial -/
theorem pz_Cp_l {KL : List Nat} {kc : Nat → zKC} {A : Nat → Int32} {K P Q T t y : Nat} {u : Int32} {s : Nat → Option Nat} {L : zLS} (hA : pz_A A K P Q T) (h : pz_Cp KL kc A K Q t y u s L) : L.1.1 6 = nI K ∧ L.1.1 7 = nI 1 ∧ L.1.1 8 = nI y ∧ L.1.1 1 = nI T := by
  obtain ⟨H, hL, hy, -⟩ := h
  have hn := pz_A_n (pz_At_A (t := t) (u := u) hA)
  exact ⟨hL.1.trans hn.2.1, hL.2.1.trans hn.2.2.1, hL.2.2.2.2.2.2.2.1.trans hy, hL.2.2.2.1.trans hn.2.2.2.2.1⟩
set_option maxHeartbeats 4000000 in
set_option maxRecDepth 100000 in
theorem pz_sIn (N : Nat) (hN : 200000 ≤ N) {KL : List Nat} {kc : Nat → zKC} {mo : zMS} {K P Q T t y k w n c a : Nat} {u : Int32} {s : Nat → Option Nat} (hA : pz_A (mo.1.2 5) K P Q T) (ht : t < 64) (hs : pz_Sr mo s) (hsb : pz_Sb s) (hk : k < K) (w1 : 1 ≤ w) (w5 : w ≤ 5) (hn60 : n ≤ 60) (c1 : 1 ≤ c) (c9 : c ≤ 9) (hy : y ≤ 60) (ew : mo.1.2 5 (24 + k) = nI w) (en : mo.1.2 5 (30 + k) = nI n) (ec : mo.1.2 5 (36 + k) = nI c) (hc : kc a = (zko (nI w), nI k, nI n, nI c)) (hb : pz_hb t k) : ∃ b : Bool, fX12_sellsIn N mo (nI t) (nI k) (nI y) = some (if b then 1 else 0) ∧ (w = 1 → b = true) ∧ (w = 5 → b = false) ∧ ∀ L, pz_Cp KL kc (mo.1.2 5) K Q t y u s L → (w = 2 → fX0_sells N kc L a 0 = some (if b then 1 else 0)) ∧ (w = 3 → fX10_sells N KL kc L a 0 = some (if b then 1 else 0)) ∧ (w = 4 → fX1_sells N kc L a 0 = some (if b then 1 else 0)) := by
  have hKn := (pz_A_n hA).1
  have e24 : (24 : Int32) + nI k = nI (24 + k) := nI_add 24 k
  have e30 : (30 : Int32) + nI k = nI (30 + k) := nI_add 30 k
  have e36 : (36 : Int32) + nI k = nI (36 + k) := nI_add 36 k
  have i24 := pz_ni (show 24 + k < 58 by omega) (by omega)
  have i30 := pz_ni (show 30 + k < 58 by omega) (by omega)
  have i36 := pz_ni (show 36 + k < 58 by omega) (by omega)
  have cl24 := nI_clamp (show 24 + k < 2 ^ 31 by omega)
  have cl30 := nI_clamp (show 30 + k < 2 ^ 31 by omega)
  have cl36 := nI_clamp (show 36 + k < 2 ^ 31 by omega)
  have hi : (kc a).2.1 = nI k := by rw [hc]
  have hn : (kc a).2.2.1 = nI n := by rw [hc]
  have q := pz_isR N w1 w5 (f := 2) (by omega)
  rw [show nI 2 = (2 : Int32) from rfl] at q
  have dn : nI y < nI n ↔ y < n := nI_ltI (by omega) (by omega)
  have s0 : ∀ L, pz_Cp KL kc (mo.1.2 5) K Q t y u s L → fX0_sells N kc L a 0 = some (if y < n then 0 else 1) := by
    intro L hL
    unfold fX0_sells
    rw [(pz_Cp_l hA hL).2.2.1, hn]
    by_cases d : y < n
    · rw [if_pos (dn.mpr d), if_pos d]
    · rw [if_neg (fun h => d (dn.mp h)), if_neg d]
  rcases (show w = 1 ∨ w = 2 ∨ w = 3 ∨ w = 4 ∨ w = 5 by omega) with rfl | rfl | rfl | rfl | rfl
  · refine ⟨true, ?_, fun _ => rfl, fun h => by omega, fun L hL => ⟨fun h => by omega, fun h => by omega, fun h => by omega⟩⟩
    simp only [fX12_sellsIn, e24, i24, cl24, ew, q, (show pz_is 1 2 = false from rfl), (show (nI 1 = 1) = True from eq_true rfl), Bool.false_eq_true, ↓reduceIte, Option.bind_some, or_self, or_false, false_or, or_true, true_or, and_true, true_and, and_false, false_and, not_true_eq_false, not_false_eq_true, pz_10, pz_01, eq_self]
  · have q1 : ¬ nI 2 = 1 := by decide
    have q3 : ¬ nI 2 = 3 := by decide
    have q4 : ¬ nI 2 = 4 := by decide
    refine ⟨decide (¬ y < n), ?_, fun h => by omega, fun h => by omega, fun L hL => ⟨fun _ => ?_, fun h => by omega, fun h => by omega⟩⟩
    · by_cases d : y < n
      · simp only [fX12_sellsIn, e24, e30, i24, i30, cl24, cl30, ew, en, q, (show pz_is 2 2 = true from rfl), q1, q3, q4, dn, d, decide_false, Bool.false_eq_true, ↓reduceIte, Option.bind_some, or_self, or_false, false_or, or_true, true_or, and_true, true_and, and_false, false_and, not_true_eq_false, not_false_eq_true, pz_10, pz_01, eq_self]
      · simp only [fX12_sellsIn, e24, e30, i24, i30, cl24, cl30, ew, en, q, (show pz_is 2 2 = true from rfl), q1, q3, q4, dn, d, decide_true, ↓reduceIte, Option.bind_some, or_self, or_false, false_or, or_true, true_or, and_true, true_and, and_false, false_and, not_true_eq_false, not_false_eq_true, pz_10, pz_01, eq_self]
    · rw [s0 L hL]
      by_cases d : y < n <;> simp [d]
  · have q1 : ¬ nI 3 = 1 := by decide
    have q4 : ¬ nI 3 = 4 := by decide
    have q3 : (nI 3 = 3) = True := eq_true rfl
    by_cases d : y < n
    · obtain ⟨b, i1, i2⟩ := pz_near N (KL := KL) (kc := kc) (u := u) (y := y) hA ht hs hsb hk hi N 0 (by omega) (by omega)
      rw [show nI 0 = (0 : Int32) from rfl] at i1 i2
      refine ⟨b, ?_, fun h => by omega, fun h => by omega, fun L hL => ⟨fun h => by omega, fun _ => ?_, fun h => by omega⟩⟩
      · cases b
        · simp only [fX12_sellsIn, fX12_isNear, e24, e30, i24, i30, cl24, cl30, ew, en, q, (show pz_is 3 2 = true from rfl), q1, q3, q4, dn, d, i1, Bool.false_eq_true, ↓reduceIte, Option.bind_some, or_self, or_false, false_or, or_true, true_or, and_true, true_and, and_false, false_and, not_true_eq_false, not_false_eq_true, pz_10, pz_01, eq_self]
        · simp only [fX12_sellsIn, fX12_isNear, e24, e30, i24, i30, cl24, cl30, ew, en, q, (show pz_is 3 2 = true from rfl), q1, q3, q4, dn, d, i1, ↓reduceIte, Option.bind_some, or_self, or_false, false_or, or_true, true_or, and_true, true_and, and_false, false_and, not_true_eq_false, not_false_eq_true, pz_10, pz_01, eq_self]
      · have j := i2 L hL
        cases b
        · simp only [fX10_sells, s0 L hL, d, fX10_isAnotherAboutTo, j, Bool.false_eq_true, Sum.elim_inl, ↓reduceIte, Option.bind_some, or_self, or_false, false_or, or_true, true_or, and_true, true_and, and_false, false_and, not_true_eq_false, not_false_eq_true, pz_10, pz_01, eq_self]
        · simp only [fX10_sells, s0 L hL, d, fX10_isAnotherAboutTo, j, Sum.elim_inr, ↓reduceIte, Option.bind_some, or_self, or_false, false_or, or_true, true_or, and_true, true_and, and_false, false_and, not_true_eq_false, not_false_eq_true, pz_10, pz_01, eq_self]
    · refine ⟨true, ?_, fun h => by omega, fun h => by omega, fun L hL => ⟨fun h => by omega, fun _ => ?_, fun h => by omega⟩⟩
      · simp only [fX12_sellsIn, e24, e30, i24, i30, cl24, cl30, ew, en, q, (show pz_is 3 2 = true from rfl), q1, dn, d, ↓reduceIte, Option.bind_some, or_self, or_false, false_or, or_true, true_or, and_true, true_and, and_false, false_and, not_true_eq_false, not_false_eq_true, pz_10, pz_01, eq_self]
      · simp only [fX10_sells, s0 L hL, d, ↓reduceIte, Option.bind_some, or_self, or_false, false_or, or_true, true_or, and_true, true_and, and_false, false_and, not_true_eq_false, not_false_eq_true, pz_10, pz_01, eq_self]
  · have q1 : ¬ nI 4 = 1 := by decide
    have q3 : ¬ nI 4 = 3 := by decide
    have q4 : (nI 4 = 4) = True := eq_true rfl
    have ct : ∀ L, pz_Cp KL kc (mo.1.2 5) K Q t y u s L → fX4_countOf N L (nI k) 0 = some (nI c) := by
      intro L hL
      obtain ⟨H, hL, -, hh⟩ := hL
      have := pz_cnt N (pz_At_A hA) hL hk (show 0 < 1 by omega)
      rw [show nI 0 = (0 : Int32) from rfl, (hh k hk).2.1 hb, ec] at this
      exact this
    by_cases d : y < n
    · by_cases d3 : nI c = 1
      · refine ⟨true, ?_, fun h => by omega, fun h => by omega, fun L hL => ⟨fun h => by omega, fun h => by omega, fun _ => ?_⟩⟩
        · simp only [fX12_sellsIn, e24, e30, e36, i24, i30, i36, cl24, cl30, cl36, ew, en, ec, q, (show pz_is 4 2 = true from rfl), q1, q4, dn, d, d3, ↓reduceIte, Option.bind_some, or_self, or_false, false_or, or_true, true_or, and_true, true_and, and_false, false_and, not_true_eq_false, not_false_eq_true, pz_10, pz_01, eq_self]
        · simp only [fX1_sells, s0 L hL, d, hi, ct L hL, d3, ↓reduceIte, Option.bind_some, or_self, or_false, false_or, or_true, true_or, and_true, true_and, and_false, false_and, not_true_eq_false, not_false_eq_true, pz_10, pz_01, eq_self]
      · refine ⟨false, ?_, fun h => by omega, fun h => by omega, fun L hL => ⟨fun h => by omega, fun h => by omega, fun _ => ?_⟩⟩
        · simp only [fX12_sellsIn, e24, e30, e36, i24, i30, i36, cl24, cl30, cl36, ew, en, ec, q, (show pz_is 4 2 = true from rfl), q1, q3, q4, dn, d, d3, Bool.false_eq_true, ↓reduceIte, Option.bind_some, or_self, or_false, false_or, or_true, true_or, and_true, true_and, and_false, false_and, not_true_eq_false, not_false_eq_true, pz_10, pz_01, eq_self]
        · simp only [fX1_sells, s0 L hL, d, hi, ct L hL, d3, Bool.false_eq_true, ↓reduceIte, Option.bind_some, or_self, or_false, false_or, or_true, true_or, and_true, true_and, and_false, false_and, not_true_eq_false, not_false_eq_true, pz_10, pz_01, eq_self]
    · refine ⟨true, ?_, fun h => by omega, fun h => by omega, fun L hL => ⟨fun h => by omega, fun h => by omega, fun _ => ?_⟩⟩
      · simp only [fX12_sellsIn, e24, e30, i24, i30, cl24, cl30, ew, en, q, (show pz_is 4 2 = true from rfl), q1, dn, d, ↓reduceIte, Option.bind_some, or_self, or_false, false_or, or_true, true_or, and_true, true_and, and_false, false_and, not_true_eq_false, not_false_eq_true, pz_10, pz_01, eq_self]
      · simp only [fX1_sells, s0 L hL, d, ↓reduceIte, Option.bind_some, or_self, or_false, false_or, or_true, true_or, and_true, true_and, and_false, false_and, not_true_eq_false, not_false_eq_true, pz_10, pz_01, eq_self]
  · have q1 : ¬ nI 5 = 1 := by decide
    have q3 : ¬ nI 5 = 3 := by decide
    have q4 : ¬ nI 5 = 4 := by decide
    refine ⟨false, ?_, fun h => by omega, fun _ => rfl, fun L hL => ⟨fun h => by omega, fun h => by omega, fun h => by omega⟩⟩
    simp only [fX12_sellsIn, e24, i24, cl24, ew, q, (show pz_is 5 2 = false from rfl), q1, q3, q4, Bool.false_eq_true, ↓reduceIte, Option.bind_some, or_self, or_false, false_or, or_true, true_or, and_true, true_and, and_false, false_and, not_true_eq_false, not_false_eq_true, pz_10, pz_01, eq_self]
set_option maxHeartbeats 4000000 in
set_option maxRecDepth 100000 in
theorem pz_sell1 (N : Nat) (hN : 200000 ≤ N) {KL : List Nat} {kc : Nat → zKC} {A : Nat → Int32} {K P Q T t y k : Nat} {u : Int32} {s : Nat → Option Nat} {L : zLS} (m0 : zMS) (hA : pz_A A K P Q T) (h : pz_Cp KL kc A K Q t y u s L) (hk : k < K) (hs : s k = none) : ∃ L', fX4_sell N L (nI k) 0 = some L' ∧ pz_Cp KL kc A K Q t y u (va_up s k (some y)) L' ∧ L'.1.1 = L.1.1 ∧ L'.2 = L.2 := by
  obtain ⟨l6, l7, l8, -⟩ := pz_Cp_l hA h
  obtain ⟨H, hL, hy, hh⟩ := h
  have hKn := (pz_A_n hA).1
  have hA2 := pz_At_A (t := t) (u := u) hA
  obtain ⟨v, -, -, d1, -⟩ := pz_had N hN (mo := zMA (zMA m0 5 (pz_At A t u)) 8 H) hA2 hL (show 0 < 1 by omega)
  obtain ⟨x1, -⟩ := pz_worth N hN (mo := zMA (zMA m0 5 (pz_At A t u)) 8 H) hA2 hL (nI y) (v + H (13 + 0))
  have d1 : fX4_hadBy N L 0 = some (v + H (13 + 0)) := d1
  have l18 : L.1.2 18 0 = H (21 + 0) := (hL.2.2.2.2.2.2.2.2.2.1 0 (by omega)).2.2.2
  obtain ⟨l15, l16⟩ := hL.2.2.2.2.2.2.2.2.2.2.1 k hk
  have kp1 : fX4_isKeeper N L (nI k) = some 1 := by
    simp (disch := omega) only [fX4_isKeeper, l6, pzl_0, pzl_1, pzl_2, pzl_3, pzl_4, pzl_5, pzl_6, pzl_7, pzl_8, pzl_9, pzl_10, pzl_13, pzl_16, pzl_21, pzl_24, pzl_29, pzl_30, pzl_36, pzl_40, pzl_42, pzl_50, pzl_58, pzl_77, pzl_116, pzl_120, pzl_154, pzl_320, pzl_500, nI_add, pk_mul, nI_clamp, nI_leI, nI_ltI, nI_eq, pz_leF, pz_leT, pz_ltF, pz_ltT, pz_eqF, pz_eqT, ↓reduceIte, Option.bind_some, or_self, or_false, false_or, or_true, true_or, and_true, true_and, and_false, false_and, not_true_eq_false, not_false_eq_true, ↓reduceIte, Option.bind_some, or_self, or_false, false_or, or_true, true_or, and_true, true_and, and_false, false_and, not_true_eq_false, not_false_eq_true]
  have pc1 : fX4_isPiece N L 0 = some 1 := by
    unfold fX4_isPiece
    rw [l7]
    rfl
  have j6 := pz_ni (show k < 6 by omega) (by omega)
  have ck := nI_clamp (show k < 2 ^ 31 by omega)
  have j8 : ¬ ((0 : Int32) < 0 ∨ 8 ≤ (0 : Int32).toNatClampNeg) := by decide
  have c0 : (0 : Int32).toNatClampNeg = 0 := rfl
  have one : H (7 + k) ||| ((1 : Int32) <<< ((0 : Int32) &&& 31)) = 1 := by
    rw [(hh k hk).1, if_pos hs]
    rfl
  generalize hU : H (1 + k) + pz_wo ((zMA (zMA m0 5 (pz_At A t u)) 8 H).1.2 5) Q (nI y) (v + H (13 + 0)) = U at *
  have cp : ∀ (L' : zLS) (H' : Nat → Int32), pz_L KL kc L' (pz_At A t u) H' K 1 Q → H' 0 = H 0 → H' (7 + k) = 1 → (∀ o, o ≠ k → o < 6 → H' (7 + o) = H (7 + o)) → (∀ i, 29 ≤ i → H' i = H i) → pz_Cp KL kc A K Q t y u (va_up s k (some y)) L' := by
    intro L' H' a1 a2 a3 a4 a5
    refine ⟨H', a1, a2.trans hy, fun o ho => ?_⟩
    obtain ⟨b1, b2, b3⟩ := hh o ho
    refine ⟨?_, fun d => (a5 _ (by omega)).trans (b2 d), fun d => (a5 _ (by omega)).trans (b3 d)⟩
    by_cases e : o = k
    · subst e
      rw [va_up_self, a3, if_neg (by simp)]
    · rw [va_up_ne _ _ e, a4 o e (by omega)]
      exact b1
  by_cases c4 : H (21 + 0) = -1000000
  · refine ⟨zLA (zLA (zLA L 15 (upd (L.1.2 15) k U)) 16 (upd (L.1.2 16) k 1)) 18 (upd (L.1.2 18) 0 (nI y)), ?_, ?_, rfl, rfl⟩
    · simp only [fX4_sell, kp1, pc1, d1, l8, x1, j6, j8, ck, c0, l15, l16, l18, c4, hU, one, ↓reduceIte, Option.bind_some, or_self, or_false, false_or, or_true, true_or, and_true, true_and, and_false, false_and, not_true_eq_false, not_false_eq_true, pz_10, pz_01, eq_self]
      rfl
    · refine cp _ _ (pz_Lsell hL hKn.2.1 hk (show 0 < 1 by omega) (by omega) U 1 (nI y)) ?_ ?_ ?_ ?_
      · rw [pk_un (by omega), pk_un (by omega), pk_un (by omega)]
      · rw [pk_un (by omega), pk_us]
      · intro o ho ho6
        rw [pk_un (by omega), pk_un (by omega), pk_un (by omega)]
      · intro i hi
        rw [pk_un (by omega), pk_un (by omega), pk_un (by omega)]
  · refine ⟨zLA (zLA L 15 (upd (L.1.2 15) k U)) 16 (upd (L.1.2 16) k 1), ?_, ?_, rfl, rfl⟩
    · simp only [fX4_sell, kp1, pc1, d1, l8, x1, j6, j8, ck, c0, l15, l16, l18, c4, hU, one, ↓reduceIte, Option.bind_some, or_self, or_false, false_or, or_true, true_or, and_true, true_and, and_false, false_and, not_true_eq_false, not_false_eq_true, pz_10, pz_01, eq_self]
      rfl
    · have q := pz_Lsell hL hKn.2.1 hk (show 0 < 1 by omega) (by omega) U 1 (H (21 + 0))
      have r2 : zLA (zLA (zLA L 15 (upd (L.1.2 15) k U)) 16 (upd (L.1.2 16) k 1)) 18 (upd (L.1.2 18) 0 (H (21 + 0))) = zLA (zLA L 15 (upd (L.1.2 15) k U)) 16 (upd (L.1.2 16) k 1) := by
        rw [← l18, pz_upd]
        have : (zLA (zLA L 15 (upd (L.1.2 15) k U)) 16 (upd (L.1.2 16) k 1)).1.2 18 = L.1.2 18 := rfl
        rw [← this]
        show ((_, va_up _ 18 _), _) = _
        rw [pz_upA]
      rw [r2] at q
      refine cp _ _ q ?_ ?_ ?_ ?_
      · rw [pk_un (by omega), pk_un (by omega), pk_un (by omega)]
      · rw [pk_un (by omega), pk_us]
      · intro o ho ho6
        rw [pk_un (by omega), pk_un (by omega), pk_un (by omega)]
      · intro i hi
        by_cases e : i = 21 + 0
        · omega
        · rw [pk_un e, pk_un (by omega), pk_un (by omega)]
set_option maxHeartbeats 4000000 in
set_option maxRecDepth 100000 in
/-- the class' inner loop over its one piece -/
theorem pz_l51 (N : Nat) (hN : 200000 ≤ N) {KL : List Nat} {kc : Nat → zKC} {L : zLS} {k a w : Nat} (w1 : 1 ≤ w) (w5 : w ≤ 5) (hc : (kc a).1 = zko (nI w)) (l7 : L.1.1 7 = nI 1) (L' : zLS) (l7' : L'.1.1 7 = nI 1) (hu : fX4_hasUnsold N L (nI k) 0 = some 0 ∧ L' = L ∨ fX4_hasUnsold N L (nI k) 0 = some 1 ∧ ∃ b : Bool, (w = 1 → b = true) ∧ (w = 5 → b = false) ∧ (w = 2 → fX0_sells N kc L a 0 = some (if b then 1 else 0)) ∧ (w = 3 → fX10_sells N KL kc L a 0 = some (if b then 1 else 0)) ∧ (w = 4 → fX1_sells N kc L a 0 = some (if b then 1 else 0)) ∧ (b = false ∧ L' = L ∨ b = true ∧ fX4_sell N L (nI k) 0 = some L')) : fX4_sellAll_l5 N KL kc a (nI k) N 0 L = some L' := by
  obtain ⟨M, hM⟩ : ∃ M, N = M + 1 := ⟨N - 1, by omega⟩
  have last : ∀ X : zLS, X.1.1 7 = nI 1 → fX4_sellAll_l5 N KL kc a (nI k) M (0 + 1) X = some X := by
    intro X hX
    obtain ⟨M', hM'⟩ : ∃ M', M = M' + 1 := ⟨M - 1, by omega⟩
    rw [hM', fX4_sellAll_l5, hX]
    rfl
  have g1 : ¬ nI 1 ≤ 0 := by decide
  conv => lhs; arg 6; rw [hM]
  rcases hu with ⟨u0, rfl⟩ | ⟨u1, b, s1, s5, s2, s3, s4, hb⟩
  · simp only [fX4_sellAll_l5, l7, g1, u0, ↓reduceIte, Option.bind_some, or_self, or_false, false_or, or_true, true_or, and_true, true_and, and_false, false_and, not_true_eq_false, not_false_eq_true, pz_10, pz_01, eq_self]
    exact last _ l7
  · have e10 : ¬ (1 : Int32) = 0 := by decide
    rcases hb with ⟨rfl, rfl⟩ | ⟨rfl, hs⟩
    · rcases (show w = 1 ∨ w = 2 ∨ w = 3 ∨ w = 4 ∨ w = 5 by omega) with rfl | rfl | rfl | rfl | rfl
      · cases s1 rfl
      · have hk1 : (kc a).1 = 0 := by rw [hc]; rfl
        simp only [fX4_sellAll_l5, l7, g1, u1, hk1, s2 rfl, Bool.false_eq_true, ↓reduceIte, Option.bind_some, or_self, or_false, false_or, or_true, true_or, and_true, true_and, and_false, false_and, not_true_eq_false, not_false_eq_true, pz_10, pz_01, eq_self]
        exact last _ l7
      · have hk1 : (kc a).1 = 9 := by rw [hc]; rfl
        simp only [fX4_sellAll_l5, l7, g1, u1, hk1, s3 rfl, Bool.false_eq_true, (show ¬ (9 : Nat) = 0 by decide), (show ¬ (9 : Nat) = 1 by decide), (show ¬ (9 : Nat) = 4 by decide), (show ¬ (9 : Nat) = 7 by decide), ↓reduceIte, Option.bind_some, or_self, or_false, false_or, or_true, true_or, and_true, true_and, and_false, false_and, not_true_eq_false, not_false_eq_true, pz_10, pz_01, eq_self]
        exact last _ l7
      · have hk1 : (kc a).1 = 1 := by rw [hc]; rfl
        simp only [fX4_sellAll_l5, l7, g1, u1, hk1, s4 rfl, Bool.false_eq_true, (show ¬ (1 : Nat) = 0 by decide), ↓reduceIte, Option.bind_some, or_self, or_false, false_or, or_true, true_or, and_true, true_and, and_false, false_and, not_true_eq_false, not_false_eq_true, pz_10, pz_01, eq_self]
        exact last _ l7
      · have hk1 : (kc a).1 = 7 := by rw [hc]; rfl
        simp only [fX4_sellAll_l5, l7, g1, u1, hk1, fX8_sells, (show ¬ (7 : Nat) = 0 by decide), (show ¬ (7 : Nat) = 1 by decide), (show ¬ (7 : Nat) = 4 by decide), ↓reduceIte, Option.bind_some, or_self, or_false, false_or, or_true, true_or, and_true, true_and, and_false, false_and, not_true_eq_false, not_false_eq_true, pz_10, pz_01, eq_self]
        exact last _ l7
    · rcases (show w = 1 ∨ w = 2 ∨ w = 3 ∨ w = 4 ∨ w = 5 by omega) with rfl | rfl | rfl | rfl | rfl
      · have hk1 : (kc a).1 = 4 := by rw [hc]; rfl
        simp only [fX4_sellAll_l5, l7, g1, u1, hk1, fX5_sells, hs, (show ¬ (4 : Nat) = 0 by decide), (show ¬ (4 : Nat) = 1 by decide), ↓reduceIte, Option.bind_some, or_self, or_false, false_or, or_true, true_or, and_true, true_and, and_false, false_and, not_true_eq_false, not_false_eq_true, pz_10, pz_01, eq_self]
        exact last _ l7'
      · have hk1 : (kc a).1 = 0 := by rw [hc]; rfl
        simp only [fX4_sellAll_l5, l7, g1, u1, hk1, s2 rfl, hs, ↓reduceIte, Option.bind_some, or_self, or_false, false_or, or_true, true_or, and_true, true_and, and_false, false_and, not_true_eq_false, not_false_eq_true, pz_10, pz_01, eq_self]
        exact last _ l7'
      · have hk1 : (kc a).1 = 9 := by rw [hc]; rfl
        simp only [fX4_sellAll_l5, l7, g1, u1, hk1, s3 rfl, hs, (show ¬ (9 : Nat) = 0 by decide), (show ¬ (9 : Nat) = 1 by decide), (show ¬ (9 : Nat) = 4 by decide), (show ¬ (9 : Nat) = 7 by decide), ↓reduceIte, Option.bind_some, or_self, or_false, false_or, or_true, true_or, and_true, true_and, and_false, false_and, not_true_eq_false, not_false_eq_true, pz_10, pz_01, eq_self]
        exact last _ l7'
      · have hk1 : (kc a).1 = 1 := by rw [hc]; rfl
        simp only [fX4_sellAll_l5, l7, g1, u1, hk1, s4 rfl, hs, (show ¬ (1 : Nat) = 0 by decide), ↓reduceIte, Option.bind_some, or_self, or_false, false_or, or_true, true_or, and_true, true_and, and_false, false_and, not_true_eq_false, not_false_eq_true, pz_10, pz_01, eq_self]
        exact last _ l7'
      · cases s5 rfl
set_option maxHeartbeats 4000000 in
set_option maxRecDepth 100000 in
theorem pz_yk (N : Nat) (hN : 200000 ≤ N) {KL : List Nat} {kc : Nat → zKC} {A : Nat → Int32} {K P Q T t y : Nat} {u x2 : Int32} (hA : pz_A A K P Q T) (ht : t < 64) (hy : y ≤ 60) (hkp : ∀ k, k < K → ∃ a, kc a = (zko (A (24 + k)), nI k, A (30 + k), A (36 + k))) : ∀ n k (mo : zMS) (s : Nat → Option Nat), k ≤ K → K - k < n → mo.1.2 5 = A → pz_Sr mo s → pz_Sb s → ∃ X' s', fX12_fits_l4 N (nI t) x2 (nI y) n (nI k) mo = some (zMA mo 24 X') ∧ pz_Sr (zMA mo 24 X') s' ∧ pz_Sb s' ∧ (∀ o j, s o = some j → s' o = some j) ∧ (∀ o, s o = none → s' o = none ∨ s' o = some y) ∧ (∀ o, ¬ pz_hb t o → s' o = s o) ∧ ∀ L, pz_Cp KL kc A K Q t y u s L → ∃ L', fX4_sellAll_l3 N KL kc n (nI k) L = some L' ∧ pz_Cp KL kc A K Q t y u s' L' ∧ L'.1.1 = L.1.1 ∧ L'.2 = L.2 := by
  obtain ⟨⟨hK1, hK6, hP8, hQ1, hQ8, hT1, hT60⟩, hA3, hA4, hA2, hA1, hA0⟩ := pz_A_n hA
  have k3 : (3 : Int32).toNatClampNeg = 3 := rfl
  intro n
  induction n with
  | zero => intro k mo s h1 h2; omega
  | succ n ih =>
    intro k mo s h1 h2 hm hs hsb
    have m3 : mo.1.2 5 3 = nI K := by rw [hm]; exact hA3
    rcases Nat.lt_or_ge k K with h3 | h3
    · have g1 : ¬ nI K ≤ nI k := nI_ge h3 (by omega)
      have i6 := pz_ni (show k < 6 by omega) (by omega)
      have cl := nI_clamp (show k < 2 ^ 31 by omega)
      have bk := pz_bit ht (show k < 6 by omega)
      have so := hs k (by omega)
      have sneg : (0 ≤ pz_ov (s k)) = ¬ (s k = none) := by
        rw [← Int32.not_lt, pz_ov_neg (fun y hy => hsb k y hy)]
      obtain ⟨w, m, c, w1, w5, n60, c1, c9, e1, e2, e3⟩ := pz_A_k hA k h3
      have kat : ∀ L, pz_Cp KL kc A K Q t y u s L → ∃ a', kc a' = (zko (nI w), nI k, nI m, nI c) ∧ zkd KL kc a' ∧ fX4_keeperAt N KL kc L (nI k) = some (some a') := by
        intro L hc
        obtain ⟨H, hL, hy, -⟩ := hc
        obtain ⟨a', w', m', c', -, -, -, -, -, -, f1, f2, f3, hkc, hz, hat⟩ := pz_kAt N (pz_At_A (t := t) (u := u) hA) hL h3
        rw [pz_At_o _ _ _ (by omega) (by omega) (by omega)] at f1 f2 f3
        rw [← f1, ← f2, ← f3, e1, e2, e3] at hkc
        exact ⟨a', hkc, hz, hat⟩
      -- no sale
      have stay : (∀ L, pz_Cp KL kc A K Q t y u s L → ∀ a', kc a' = (zko (nI w), nI k, nI m, nI c) → fX4_sellAll_l5 N KL kc a' (nI k) N 0 L = some L) → fX12_fits_l4 N (nI t) x2 (nI y) (n + 1) (nI k) mo = fX12_fits_l4 N (nI t) x2 (nI y) n (nI (k + 1)) mo → ∃ X' s', fX12_fits_l4 N (nI t) x2 (nI y) (n + 1) (nI k) mo = some (zMA mo 24 X') ∧ pz_Sr (zMA mo 24 X') s' ∧ pz_Sb s' ∧ (∀ o j, s o = some j → s' o = some j) ∧ (∀ o, s o = none → s' o = none ∨ s' o = some y) ∧ (∀ o, ¬ pz_hb t o → s' o = s o) ∧ ∀ L, pz_Cp KL kc A K Q t y u s L → ∃ L', fX4_sellAll_l3 N KL kc (n + 1) (nI k) L = some L' ∧ pz_Cp KL kc A K Q t y u s' L' ∧ L'.1.1 = L.1.1 ∧ L'.2 = L.2 := by
        intro hC hR
        obtain ⟨X', s', f1, f2, f3, f4, f5, f6, f7⟩ := ih (k + 1) mo s (by omega) (by omega) hm hs hsb
        refine ⟨X', s', hR.trans f1, f2, f3, f4, f5, f6, fun L hL => ?_⟩
        obtain ⟨a', hkc, hz, hat⟩ := kat L hL
        have hz' : (¬ zkd KL kc a') = False := eq_false (fun h => h hz)
        obtain ⟨L', r1, r2⟩ := f7 L hL
        refine ⟨L', ?_, r2⟩
        simp only [fX4_sellAll_l3, (pz_Cp_l hA hL).1, g1, hat, hz', hC L hL a' hkc, nI_1, ↓reduceIte, Option.bind_some, or_self, or_false, false_or, or_true, true_or, and_true, true_and, and_false, false_and, not_true_eq_false, not_false_eq_true]
        exact r1
      by_cases d1 : pz_hb t k
      · by_cases d2 : s k = none
        · obtain ⟨a0, ha0⟩ := hkp k h3
          rw [e1, e2, e3] at ha0
          -- the reference's word, and the class' for any keeper's object of that kind
          subst hm
          obtain ⟨b, b0, b1, b5, b2⟩ := pz_sIn N hN (KL := KL) (kc := kc) (u := u) (a := a0) hA ht hs hsb h3 w1 w5 n60 c1 c9 hy e1 e2 e3 ha0 d1
          cases b with
          | false =>
            refine stay (fun L hL a' hkc => ?_) ?_
            · obtain ⟨l6, l7, -, -⟩ := pz_Cp_l hA hL
              obtain ⟨b', c0, c1', c5, c2⟩ := pz_sIn N hN (KL := KL) (kc := kc) (u := u) (a := a') hA ht hs hsb h3 w1 w5 n60 c1 c9 hy e1 e2 e3 hkc d1
              have : b' = false := by
                rw [b0] at c0
                cases b'
                · rfl
                · exact absurd (Option.some.inj c0) (by decide)
              subst this
              obtain ⟨v2, v3, v4⟩ := c2 L hL
              refine pz_l51 N hN w1 w5 (by rw [hkc]) l7 L l7 ?_
              rcases pz_uns1 N hA hL h3 with ⟨-, -, un⟩ | ⟨-, un⟩
              · exact .inr ⟨un, false, c1', c5, v2, v3, v4, .inl ⟨rfl, rfl⟩⟩
              · exact .inl ⟨un, rfl⟩
            · simp only [fX12_fits_l4, k3, m3, g1, bk, d1, i6, cl, so, sneg, d2, b0, Bool.false_eq_true, nI_1, ↓reduceIte, Option.bind_some, or_self, or_false, false_or, or_true, true_or, and_true, true_and, and_false, false_and, not_true_eq_false, not_false_eq_true, pz_10, pz_01, eq_self]
              rw [← d2, ← so, pz_upd, pz_MA0]
              split <;> rfl
          | true =>
            obtain ⟨X', s', f1, f2, f3, f4, f5, f6, f7⟩ := ih (k + 1) (zMA mo 24 (upd (mo.1.2 24) k (nI y))) (va_up s k (some y)) (by omega) (by omega) rfl (by
              intro o ho
              rw [pz_MA]
              by_cases e : o = k
              · subst e
                rw [pk_us, va_up_self]
                rfl
              · rw [pk_un e, va_up_ne _ _ e]
                exact hs o ho) (by
              intro o j hj
              by_cases e : o = k
              · subst e
                rw [va_up_self] at hj
                cases hj
                exact hy
              · rw [va_up_ne _ _ e] at hj
                exact hsb o j hj)
            rw [pz_MAA] at f1 f2
            refine ⟨X', s', ?_, f2, f3, ?_, ?_, ?_, fun L hL => ?_⟩
            · simp only [fX12_fits_l4, k3, m3, g1, bk, d1, i6, cl, so, sneg, d2, b0, nI_1, ↓reduceIte, Option.bind_some, or_self, or_false, false_or, or_true, true_or, and_true, true_and, and_false, false_and, not_true_eq_false, not_false_eq_true, pz_10, pz_01, eq_self]
              exact f1
            · intro o j hj
              refine f4 o j ?_
              by_cases e : o = k
              · subst e; rw [d2] at hj; cases hj
              · rw [va_up_ne _ _ e]; exact hj
            · intro o ho
              by_cases e : o = k
              · subst e
                exact .inr (f4 o y (va_up_self _ _ _))
              · exact f5 o (by rw [va_up_ne _ _ e]; exact ho)
            · intro o ho
              have e : o ≠ k := fun e => ho (e ▸ d1)
              rw [f6 o ho, va_up_ne _ _ e]
            · obtain ⟨l6, l7, -, -⟩ := pz_Cp_l hA hL
              obtain ⟨a', hkc, hz, hat⟩ := kat L hL
              have hz' : (¬ zkd KL kc a') = False := eq_false (fun h => h hz)
              obtain ⟨b', c0, c1', c5, c2⟩ := pz_sIn N hN (KL := KL) (kc := kc) (u := u) (a := a') hA ht hs hsb h3 w1 w5 n60 c1 c9 hy e1 e2 e3 hkc d1
              have : b' = true := by
                rw [b0] at c0
                cases b'
                · exact absurd (Option.some.inj c0) (by decide)
                · rfl
              subst this
              obtain ⟨v2, v3, v4⟩ := c2 L hL
              obtain ⟨L1, r1, r2, r3, r4⟩ := pz_sell1 N hN mo hA hL h3 d2
              have e5 := pz_l51 N hN (KL := KL) (kc := kc) (L := L) (k := k) (a := a') (w := w) w1 w5 (by rw [hkc]) l7 L1 (pz_Cp_l hA r2).2.1 (by
                rcases pz_uns1 N hA hL h3 with ⟨-, -, un⟩ | ⟨d5, -⟩
                · exact .inr ⟨un, true, c1', c5, v2, v3, v4, .inr ⟨rfl, r1⟩⟩
                · exact absurd ⟨d1, d2⟩ d5)
              obtain ⟨L', t1, t2, t3, t4⟩ := f7 L1 r2
              refine ⟨L', ?_, t2, t3.trans r3, t4.trans r4⟩
              simp only [fX4_sellAll_l3, l6, g1, hat, hz', e5, nI_1, ↓reduceIte, Option.bind_some, or_self, or_false, false_or, or_true, true_or, and_true, true_and, and_false, false_and, not_true_eq_false, not_false_eq_true]
              exact t1
        · refine stay (fun L hL a' hkc => ?_) ?_
          · obtain ⟨l6, l7, -, -⟩ := pz_Cp_l hA hL
            refine pz_l51 N hN w1 w5 (by rw [hkc]) l7 L l7 ?_
            rcases pz_uns1 N hA hL h3 with ⟨-, d5, -⟩ | ⟨-, un⟩
            · exact absurd d5 d2
            · exact .inl ⟨un, rfl⟩
          · simp only [fX12_fits_l4, k3, m3, g1, bk, d1, i6, cl, so, sneg, d2, nI_1, ↓reduceIte, Option.bind_some, or_self, or_false, false_or, or_true, true_or, and_true, true_and, and_false, false_and, not_true_eq_false, not_false_eq_true, pz_10, pz_01, eq_self]
            rw [← so, pz_upd, pz_MA0]
      · refine stay (fun L hL a' hkc => ?_) ?_
        · obtain ⟨l6, l7, -, -⟩ := pz_Cp_l hA hL
          refine pz_l51 N hN w1 w5 (by rw [hkc]) l7 L l7 ?_
          rcases pz_uns1 N hA hL h3 with ⟨d5, -, -⟩ | ⟨-, un⟩
          · exact absurd d5 d1
          · exact .inl ⟨un, rfl⟩
        · simp only [fX12_fits_l4, k3, m3, g1, bk, d1, i6, cl, pz_upd, pz_MA0, nI_1, ↓reduceIte, Option.bind_some, or_self, or_false, false_or, or_true, true_or, and_true, true_and, and_false, false_and, not_true_eq_false, not_false_eq_true, pz_10, pz_01, eq_self]
    · have e : k = K := by omega
      subst e
      have g1 : nI k ≤ nI k := Int32.le_refl _
      refine ⟨mo.1.2 24, s, ?_, by rw [pz_MA0]; exact hs, hsb, fun _ _ h => h, fun _ h => .inl h, fun _ _ => rfl, fun L hL => ⟨L, ?_, hL, rfl, rfl⟩⟩
      · simp only [fX12_fits_l4, k3, m3, g1, pz_MA0, ↓reduceIte, Option.bind_some, or_self, or_false, false_or, or_true, true_or, and_true, true_and, and_false, false_and, not_true_eq_false, not_false_eq_true]
      · simp only [fX4_sellAll_l3, (pz_Cp_l hA hL).1, g1, ↓reduceIte, Option.bind_some, or_self, or_false, false_or, or_true, true_or, and_true, true_and, and_false, false_and, not_true_eq_false, not_false_eq_true]
