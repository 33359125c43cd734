/-! THE PURE LAYER: rows -/
theorem pz_row0 (N : Nat) {x : Int32} (h : x < 0 ∨ nI 8 ≤ x) : fX7_isRow N x = some 0 ∧ fX12_isRow N x = some 0 := by
  have e : ∀ b : Int32, b < nI 8 → fX11_within N x 0 b = some 0 := by
    intro b hb
    unfold fX11_within
    rcases h with h | h
    · rw [if_pos h]
    · by_cases h2 : x < 0
      · rw [if_pos h2]
      · rw [if_neg h2, if_pos (Int32.lt_of_lt_of_le hb h)]
  constructor
  · unfold fX7_isRow
    rcases h with h | h
    · rw [if_pos h]
    · by_cases h2 : x < 0
      · rw [if_pos h2]
      · rw [if_neg h2, if_pos (show (8 : Int32) ≤ x from h)]
  · unfold fX12_isRow
    rw [pz_in_0_7, e 7 (by decide)]
    rfl
theorem pz_row1 (N : Nat) {r : Nat} (h : r < 8) : fX7_isRow N (nI r) = some 1 ∧ fX12_isRow N (nI r) = some 1 := by
  constructor
  · simp (disch := omega) only [fX7_isRow, pzl_0, pzl_1, pzl_2, pzl_3, pzl_4, pzl_5, pzl_6, pzl_7, pzl_8, pzl_9, pzl_10, pzl_13, pzl_16, pzl_21, pzl_24, pzl_29, pzl_30, pzl_36, pzl_40, pzl_42, pzl_50, pzl_58, pzl_77, pzl_116, pzl_120, pzl_154, pzl_320, pzl_500, nI_add, pk_mul, nI_clamp, nI_leI, nI_ltI, nI_eq, pz_leF, pz_leT, pz_ltF, pz_ltT, pz_eqF, pz_eqT, ↓reduceIte, Option.bind_some, or_self, or_false, false_or, or_true, true_or, and_true, true_and, and_false, false_and, not_true_eq_false, not_false_eq_true, ↓reduceIte, Option.bind_some, or_self, or_false, false_or, or_true, true_or, and_true, true_and, and_false, false_and, not_true_eq_false, not_false_eq_true]
  · unfold fX12_isRow
    rw [pz_in_0_7, pz_wi1 (nI_pos' (by omega)) (show nI r ≤ (7 : Int32) from nI_le (b := 7) (by omega) (by omega))]
    rfl
/-- a number below m, or none -/
theorem pz_blw (N : Nat) (x : Int32) (m : Nat) (hm : m < 2 ^ 30 := by omega) : ((x < 0 ∨ nI m ≤ x) ∧ fX11_within N x 0 (nI m - 1) = some 0) ∨ ∃ j, j < m ∧ x = nI j ∧ fX11_within N x 0 (nI m - 1) = some 1 := by
  rcases pz_ix x m with h | ⟨j, hj, rfl⟩
  · refine .inl ⟨h, ?_⟩
    unfold fX11_within
    rcases h with h | h
    · rw [if_pos h]
    · by_cases h2 : x < 0
      · rw [if_pos h2]
      · rw [if_neg h2, if_pos ?_]
        have h3 := Int32.le_iff_toInt_le.mp h
        have h4 := Int32.le_iff_toInt_le.mp (pz_nlt h2)
        rw [nI_toInt (by omega)] at h3
        rw [Int32.lt_iff_toInt_lt]
        have h5 := pk_sub_toInt (a := m) (b := 1) (by omega) (by omega)
        rw [show nI m - 1 = nI m - nI 1 from rfl, h5]
        have : (0 : Int32).toInt = 0 := rfl
        omega
  · refine .inr ⟨j, hj, rfl, ?_⟩
    rw [show (1 : Int32) = nI 1 from rfl, pk_sub (by omega)]
    exact pz_wi1 (nI_pos' (by omega)) (nI_le (by omega) (by omega))
set_option maxHeartbeats 4000000 in
set_option maxRecDepth 100000 in
theorem pz_row_l (N : Nat) (x3 : Int32) {r : Nat} (hr : r < 8) : ∀ (n k : Nat) (mo : zMS), k ≤ 40 → 40 - k < n → fX12_row_l1 N (nI r) x3 n (nI k) mo = some (zMA mo 4 (zfl (mo.1.2 4) (40 * r + k) (40 * r + 40) 0)) := by
  intro n
  induction n with
  | zero => intro k mo h1 h2; omega
  | succ n ih =>
    intro k mo h1 h2
    rcases Nat.lt_or_ge k 40 with h | h
    · simp (disch := omega) only [fX12_row_l1, pzl_0, pzl_1, pzl_2, pzl_3, pzl_4, pzl_5, pzl_6, pzl_7, pzl_8, pzl_9, pzl_10, pzl_13, pzl_16, pzl_21, pzl_24, pzl_29, pzl_30, pzl_36, pzl_40, pzl_42, pzl_50, pzl_58, pzl_77, pzl_116, pzl_120, pzl_154, pzl_320, pzl_500, nI_add, pk_mul, nI_clamp, nI_leI, nI_ltI, nI_eq, pz_leF, pz_leT, pz_ltF, pz_ltT, pz_eqF, pz_eqT, ↓reduceIte, Option.bind_some, or_self, or_false, false_or, or_true, true_or, and_true, true_and, and_false, false_and, not_true_eq_false, not_false_eq_true, ↓reduceIte, Option.bind_some, or_self, or_false, false_or, or_true, true_or, and_true, true_and, and_false, false_and, not_true_eq_false, not_false_eq_true]
      rw [ih (k + 1) _ (by omega) (by omega), pz_MAA, pz_MA]
      rw [show nI 0 = 0 from rfl, show 40 * r + (k + 1) = 40 * r + k + 1 from rfl, pz_zfl _ (by omega)]
    · have e : k = 40 := by omega
      subst e
      simp (disch := omega) only [fX12_row_l1, pzl_0, pzl_1, pzl_2, pzl_3, pzl_4, pzl_5, pzl_6, pzl_7, pzl_8, pzl_9, pzl_10, pzl_13, pzl_16, pzl_21, pzl_24, pzl_29, pzl_30, pzl_36, pzl_40, pzl_42, pzl_50, pzl_58, pzl_77, pzl_116, pzl_120, pzl_154, pzl_320, pzl_500, nI_add, pk_mul, nI_clamp, nI_leI, nI_ltI, nI_eq, pz_leF, pz_leT, pz_ltF, pz_ltT, pz_eqF, pz_eqT, ↓reduceIte, Option.bind_some, or_self, or_false, false_or, or_true, true_or, and_true, true_and, and_false, false_and, not_true_eq_false, not_false_eq_true, ↓reduceIte, Option.bind_some, or_self, or_false, false_or, or_true, true_or, and_true, true_and, and_false, false_and, not_true_eq_false, not_false_eq_true]
      rw [zfl_0, pz_MA0]
set_option maxHeartbeats 4000000 in
set_option maxRecDepth 100000 in
theorem ps_row {N : Nat} (hN : 200000 ≤ N) : zStep_row N pz_Inv := by
  intro KL kc on rw rd ft tr la mo hI x1 x2 x3
  rcases pz_ix x1 8 with h | ⟨r, hr, rfl⟩
  · simp only [fX11_row, fX12_row, (pz_row0 N h).1, (pz_row0 N h).2, ↓reduceIte, Option.bind_some, or_self, or_false, false_or, or_true, true_or, and_true, true_and, and_false, false_and, not_true_eq_false, not_false_eq_true, pz_10, pz_01, eq_self]
    exact ⟨_, _, rfl, rfl, rfl, pz_th 0 hI⟩
  have r1 := pz_row1 N hr
  rcases pz_wiN N x2 0 2 0 2 with h2 | ⟨h2, l, -, hl, rfl⟩
  · simp only [fX11_row, fX12_row, r1.1, r1.2, pz_in_0_2, h2, ↓reduceIte, Option.bind_some, or_self, or_false, false_or, or_true, true_or, and_true, true_and, and_false, false_and, not_true_eq_false, not_false_eq_true, pz_10, pz_01, eq_self]
    exact ⟨_, _, rfl, rfl, rfl, pz_th 0 hI⟩
  by_cases h3 : x3 ≤ 40
  · by_cases h4 : 0 ≤ x3
    · obtain ⟨m, hm, rfl⟩ := nI_of2 (M := 40) (n := 40) rfl (Int32.not_lt.mpr h4) h3
      have e1 : fX7_lay N rw (nI r) (nI l) (nI m) = some (zpA (zpA (zpA rw 0 (upd (rw.2 0) r (nI l))) 1 (upd (rw.2 1) r (nI m))) 2 (zfl (rw.2 2) (r * 40) (r * 40 + m) 0)) := by
        simp (disch := omega) only [fX7_lay, r1.1, pzl_0, pzl_1, pzl_2, pzl_3, pzl_4, pzl_5, pzl_6, pzl_7, pzl_8, pzl_9, pzl_10, pzl_13, pzl_16, pzl_21, pzl_24, pzl_29, pzl_30, pzl_36, pzl_40, pzl_42, pzl_50, pzl_58, pzl_77, pzl_116, pzl_120, pzl_154, pzl_320, pzl_500, nI_add, pk_mul, nI_clamp, nI_leI, nI_ltI, nI_eq, pz_leF, pz_leT, pz_ltF, pz_ltT, pz_eqF, pz_eqT, ↓reduceIte, Option.bind_some, or_self, or_false, false_or, or_true, true_or, and_true, true_and, and_false, false_and, not_true_eq_false, not_false_eq_true, ↓reduceIte, Option.bind_some, or_self, or_false, false_or, or_true, true_or, and_true, true_and, and_false, false_and, not_true_eq_false, not_false_eq_true, pz_10, pz_01, eq_self]
      have e2 := pz_row_l N (nI m) hr N 0 (zMA (zMA (zMi (zMi mo 0 (0 : Int32)) 1 (0 : Int32)) 2 (upd (mo.1.2 2) r (nI l))) 3 (upd (mo.1.2 3) r (nI m))) (by omega) (by omega)
      have i0 := pz_ni hr (N := 8) (by omega)
      simp only [fX11_row, fX12_row, r1.1, r1.2, pz_in_0_2, h2, h3, h4, e1, i0, nI_clamp (show r < 2 ^ 31 by omega), fX11_fine, ↓reduceIte, Option.bind_some, or_self, or_false, false_or, or_true, true_or, and_true, true_and, and_false, false_and, not_true_eq_false, not_false_eq_true, pz_10, pz_01, eq_self]
      rw [show nI 0 = (0 : Int32) from rfl] at e2
      simp only [e2, Option.bind_some]
      refine ⟨_, _, rfl, rfl, rfl, ?_⟩
      refine ⟨hI.1, rfl, ?_, hI.2.2.2.1, hI.2.2.2.2.1, hI.2.2.2.2.2⟩
      intro q hq
      obtain ⟨g1, g2, m', g3, g4, g5, g6⟩ := hI.2.2.1 q hq
      by_cases e : q = r
      · subst e
        refine ⟨?_, ?_, m, hm, ?_, ?_, ?_⟩
        · simp [zpA, zMA, zMi, va_up, upd]
        · simp [zMA, zMi, va_up, upd]
          rcases (show l = 0 ∨ l = 1 ∨ l = 2 by omega) with rfl | rfl | rfl
          · exact .inr (.inl rfl)
          · exact .inr (.inr (.inl rfl))
          · exact .inr (.inr (.inr rfl))
        · simp [zpA, va_up, upd]
        · simp [zMA, zMi, va_up, upd]
        · intro i hi
          have a1 : q * 40 ≤ q * 40 + i ∧ q * 40 + i < q * 40 + m := by omega
          have a2 : 40 * q + 0 ≤ q * 40 + i ∧ q * 40 + i < 40 * q + 40 := by omega
          simp only [zpA, zMA, va_up_self, zfl, if_pos a1, if_pos a2]
      · refine ⟨?_, ?_, m', g3, ?_, ?_, ?_⟩
        · simpa [zpA, zMA, zMi, va_up, upd, e] using g1
        · simpa [zMA, zMi, va_up, upd, e] using g2
        · simpa [zpA, va_up, upd, e] using g4
        · simpa [zMA, zMi, va_up, upd, e] using g5
        · intro i hi
          have a1 : ¬ (r * 40 ≤ q * 40 + i ∧ q * 40 + i < r * 40 + m) := by omega
          have a2 : ¬ (40 * r ≤ q * 40 + i ∧ q * 40 + i < 40 * r + 40) := by omega
          have := g6 i hi
          simpa [zpA, zMA, zMi, va_up, zfl, a1, a2] using this
    · simp only [fX11_row, fX12_row, r1.1, r1.2, pz_in_0_2, h2, h3, h4, fX11_found, fX12_finding, ↓reduceIte, Option.bind_some, or_self, or_false, false_or, or_true, true_or, and_true, true_and, and_false, false_and, not_true_eq_false, not_false_eq_true, pz_10, pz_01, eq_self]
      exact ⟨_, _, rfl, rfl, rfl, pz_st 4 hI⟩
  · simp only [fX11_row, fX12_row, r1.1, r1.2, pz_in_0_2, h2, h3, ↓reduceIte, Option.bind_some, or_self, or_false, false_or, or_true, true_or, and_true, true_and, and_false, false_and, not_true_eq_false, not_false_eq_true, pz_10, pz_01, eq_self]
    exact ⟨_, _, rfl, rfl, rfl, pz_th 0 hI⟩
set_option maxHeartbeats 4000000 in
set_option maxRecDepth 100000 in
/-- is a row missing: by its lane -/
theorem pz_miss (N : Nat) {rw : zOS} {mo : zMS} (h : pz_rw rw mo) {r : Nat} (hr : r < 8) : (mo.1.2 2 r = -1 ∧ fX7_isMissing N rw (nI r) = some 1) ∨ ((mo.1.2 2 r = 0 ∨ mo.1.2 2 r = 1 ∨ mo.1.2 2 r = 2) ∧ 0 ≤ mo.1.2 2 r ∧ fX7_isMissing N rw (nI r) = some 0) := by
  obtain ⟨g1, g2, -⟩ := h r hr
  have r1 := pz_row1 N hr
  have i0 := pz_ni hr (N := 8) (by omega)
  rcases g2 with g | g
  · refine .inl ⟨g, ?_⟩
    simp only [fX7_isMissing, r1.1, i0, nI_clamp (show r < 2 ^ 31 by omega), g1, g, ↓reduceIte, Option.bind_some, or_self, or_false, false_or, or_true, true_or, and_true, true_and, and_false, false_and, not_true_eq_false, not_false_eq_true, pz_10, pz_01, eq_self]
  · refine .inr ⟨g, ?_, ?_⟩
    · rcases g with g | g | g <;> rw [g] <;> decide
    · have : ¬ mo.1.2 2 r = -1 := by rcases g with g | g | g <;> rw [g] <;> decide
      simp only [fX7_isMissing, r1.1, i0, nI_clamp (show r < 2 ^ 31 by omega), g1, this, ↓reduceIte, Option.bind_some, or_self, or_false, false_or, or_true, true_or, and_true, true_and, and_false, false_and, not_true_eq_false, not_false_eq_true, pz_10, pz_01, eq_self]
set_option maxHeartbeats 4000000 in
set_option maxRecDepth 100000 in
theorem ps_drop {N : Nat} : zStep_drop N pz_Inv := by
  intro KL kc on rw rd ft tr la mo hI x1
  rcases pz_ix x1 8 with h | ⟨r, hr, rfl⟩
  · simp only [fX11_drop, fX12_drop, (pz_row0 N h).1, (pz_row0 N h).2, ↓reduceIte, Option.bind_some, or_self, or_false, false_or, or_true, true_or, and_true, true_and, and_false, false_and, not_true_eq_false, not_false_eq_true, pz_10, pz_01, eq_self]
    exact ⟨_, _, rfl, rfl, rfl, pz_th 0 hI⟩
  have r1 := pz_row1 N hr
  have i0 := pz_ni hr (N := 8) (by omega)
  have cl := nI_clamp (show r < 2 ^ 31 by omega)
  obtain ⟨g1, g2, m, g3, g4, g5, g6⟩ := hI.2.2.1 r hr
  rcases pz_miss N hI.2.2.1 hr with ⟨g, g7⟩ | ⟨g, g8, g7⟩
  · have g8 : ¬ 0 ≤ mo.1.2 2 r := by rw [g]; decide
    simp only [fX11_drop, fX12_drop, fX11_found, fX12_finding, r1.1, r1.2, i0, cl, g7, g8, ↓reduceIte, Option.bind_some, or_self, or_false, false_or, or_true, true_or, and_true, true_and, and_false, false_and, not_true_eq_false, not_false_eq_true, pz_10, pz_01, eq_self]
    exact ⟨_, _, rfl, rfl, rfl, pz_st 1 hI⟩
  · simp only [fX11_drop, fX12_drop, fX11_fine, fX7_remove, r1.1, r1.2, i0, cl, g7, g8, ↓reduceIte, Option.bind_some, or_self, or_false, false_or, or_true, true_or, and_true, true_and, and_false, false_and, not_true_eq_false, not_false_eq_true, pz_10, pz_01, eq_self]
    refine ⟨_, _, rfl, rfl, g4.trans g5.symm, hI.1, rfl, ?_, hI.2.2.2.1, hI.2.2.2.2.1, hI.2.2.2.2.2⟩
    intro q hq
    obtain ⟨k1, k2, m', k3, k4, k5, k6⟩ := hI.2.2.1 q hq
    by_cases e : q = r
    · subst e
      refine ⟨?_, .inl ?_, m', k3, k4, k5, k6⟩
      · simp [zpA, zMA, zMi, va_up, upd]
      · simp [zMA, zMi, va_up, upd]
    · refine ⟨?_, ?_, m', k3, k4, k5, k6⟩
      · simpa [zpA, zMA, zMi, va_up, upd, e] using k1
      · simpa [zMA, zMi, va_up, upd, e] using k2
