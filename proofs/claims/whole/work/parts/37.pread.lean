/-! THE PURE LAYER: what is read of a land -/
set_option maxHeartbeats 4000000 in
set_option maxRecDepth 100000 in
theorem pz_kpr (N : Nat) {KL : List Nat} {kc : Nat → zKC} {L : zLS} {mo : zMS} {K : Nat} (hK : K ≤ 6) (hL : L.1.1 6 = nI K) (hA : mo.1.2 5 3 = nI K) (x : Int32) : (fX4_isKeeper N L x = some 0 ∧ fX12_isKeeper N mo x = some 0 ∧ fX4_keeperAt N KL kc L x = some none) ∨ ∃ k, k < K ∧ x = nI k ∧ fX4_isKeeper N L x = some 1 ∧ fX12_isKeeper N mo x = some 1 := by
  have k3 : (3 : Int32).toNatClampNeg = 3 := rfl
  rcases pz_blw N x K with ⟨h, h2⟩ | ⟨k, hk, rfl, h2⟩
  · refine .inl ⟨?_, ?_, ?_⟩
    · by_cases c : x < 0
      · simp only [fX4_isKeeper, c, ↓reduceIte, Option.bind_some, or_self, or_false, false_or, or_true, true_or, and_true, true_and, and_false, false_and, not_true_eq_false, not_false_eq_true]
      · have := h.resolve_left c
        simp only [fX4_isKeeper, c, hL, this, ↓reduceIte, Option.bind_some, or_self, or_false, false_or, or_true, true_or, and_true, true_and, and_false, false_and, not_true_eq_false, not_false_eq_true]
    · simp only [fX12_isKeeper, k3, hA, pz_in_0, h2, ↓reduceIte, Option.bind_some, or_self, or_false, false_or, or_true, true_or, and_true, true_and, and_false, false_and, not_true_eq_false, not_false_eq_true, pz_10, pz_01, eq_self]
    · by_cases c : x < 0
      · simp only [fX4_keeperAt, c, ↓reduceIte, Option.bind_some, or_self, or_false, false_or, or_true, true_or, and_true, true_and, and_false, false_and, not_true_eq_false, not_false_eq_true]
      · have := h.resolve_left c
        simp only [fX4_keeperAt, c, hL, this, ↓reduceIte, Option.bind_some, or_self, or_false, false_or, or_true, true_or, and_true, true_and, and_false, false_and, not_true_eq_false, not_false_eq_true]
  · refine .inr ⟨k, hk, rfl, ?_, ?_⟩
    · simp (disch := omega) only [fX4_isKeeper, hL, pzl_0, pzl_1, pzl_2, pzl_3, pzl_4, pzl_5, pzl_6, pzl_7, pzl_8, pzl_9, pzl_10, pzl_13, pzl_16, pzl_21, pzl_24, pzl_29, pzl_30, pzl_36, pzl_40, pzl_42, pzl_50, pzl_58, pzl_77, pzl_116, pzl_120, pzl_154, pzl_320, pzl_500, nI_add, pk_mul, nI_clamp, nI_leI, nI_ltI, nI_eq, pz_leF, pz_leT, pz_ltF, pz_ltT, pz_eqF, pz_eqT, ↓reduceIte, Option.bind_some, or_self, or_false, false_or, or_true, true_or, and_true, true_and, and_false, false_and, not_true_eq_false, not_false_eq_true, ↓reduceIte, Option.bind_some, or_self, or_false, false_or, or_true, true_or, and_true, true_and, and_false, false_and, not_true_eq_false, not_false_eq_true]
    · simp only [fX12_isKeeper, k3, hA, pz_in_0, h2, ↓reduceIte, Option.bind_some, or_self, or_false, false_or, or_true, true_or, and_true, true_and, and_false, false_and, not_true_eq_false, not_false_eq_true, pz_10, pz_01, eq_self]
set_option maxHeartbeats 4000000 in
set_option maxRecDepth 100000 in
theorem pz_pcs (N : Nat) {L : zLS} {mo : zMS} {P : Nat} (hP : P ≤ 8) (hL : L.1.1 7 = nI P) (hA : mo.1.2 5 4 = nI P) (x : Int32) : (fX4_isPiece N L x = some 0 ∧ fX12_isPiece N mo x = some 0) ∨ ∃ p, p < P ∧ x = nI p ∧ fX4_isPiece N L x = some 1 ∧ fX12_isPiece N mo x = some 1 := by
  have k4 : (4 : Int32).toNatClampNeg = 4 := rfl
  rcases pz_blw N x P with ⟨h, h2⟩ | ⟨k, hk, rfl, h2⟩
  · refine .inl ⟨?_, ?_⟩
    · by_cases c : x < 0
      · simp only [fX4_isPiece, c, ↓reduceIte, Option.bind_some, or_self, or_false, false_or, or_true, true_or, and_true, true_and, and_false, false_and, not_true_eq_false, not_false_eq_true]
      · have := h.resolve_left c
        simp only [fX4_isPiece, c, hL, this, ↓reduceIte, Option.bind_some, or_self, or_false, false_or, or_true, true_or, and_true, true_and, and_false, false_and, not_true_eq_false, not_false_eq_true]
    · simp only [fX12_isPiece, k4, hA, pz_in_0, h2, ↓reduceIte, Option.bind_some, or_self, or_false, false_or, or_true, true_or, and_true, true_and, and_false, false_and, not_true_eq_false, not_false_eq_true, pz_10, pz_01, eq_self]
  · refine .inr ⟨k, hk, rfl, ?_, ?_⟩
    · simp (disch := omega) only [fX4_isPiece, hL, pzl_0, pzl_1, pzl_2, pzl_3, pzl_4, pzl_5, pzl_6, pzl_7, pzl_8, pzl_9, pzl_10, pzl_13, pzl_16, pzl_21, pzl_24, pzl_29, pzl_30, pzl_36, pzl_40, pzl_42, pzl_50, pzl_58, pzl_77, pzl_116, pzl_120, pzl_154, pzl_320, pzl_500, nI_add, pk_mul, nI_clamp, nI_leI, nI_ltI, nI_eq, pz_leF, pz_leT, pz_ltF, pz_ltT, pz_eqF, pz_eqT, ↓reduceIte, Option.bind_some, or_self, or_false, false_or, or_true, true_or, and_true, true_and, and_false, false_and, not_true_eq_false, not_false_eq_true, ↓reduceIte, Option.bind_some, or_self, or_false, false_or, or_true, true_or, and_true, true_and, and_false, false_and, not_true_eq_false, not_false_eq_true]
    · simp only [fX12_isPiece, k4, hA, pz_in_0, h2, ↓reduceIte, Option.bind_some, or_self, or_false, false_or, or_true, true_or, and_true, true_and, and_false, false_and, not_true_eq_false, not_false_eq_true, pz_10, pz_01, eq_self]
/-- the land now: none is told, or all that is known of one -/
theorem pz_nows (N : Nat) {KL : List Nat} {kc : Nat → zKC} {L : zLS} {mo : zMS} (h : pz_now KL kc L mo) : (mo.1.1 7 = 0 ∧ L.1.1 6 = nI 0 ∧ mo.1.2 5 3 = nI 0 ∧ L.1.1 7 = nI 0 ∧ mo.1.2 5 4 = nI 0 ∧ fX4_isTold N L = some 0) ∨ (mo.1.1 7 = 1 ∧ fX4_isTold N L = some 1 ∧ ∃ K P Q T, pz_A (mo.1.2 5) K P Q T ∧ pz_H (mo.1.2 8) K P ∧ pz_L KL kc L (mo.1.2 5) (mo.1.2 8) K P Q ∧ L.1.1 3 = mo.1.2 5 5 ∧ L.1.1 6 = nI K ∧ L.1.1 7 = nI P) := by
  rcases h with ⟨h, a, b, c, d, -⟩ | ⟨h, K, P, Q, T, hA, hH, hL, hl⟩
  · refine .inl ⟨h, a, b, c, d, ?_⟩
    unfold fX4_isTold
    rw [a]; rfl
  · refine .inr ⟨h, ?_, K, P, Q, T, hA, hH, hL, hl, hL.1.trans (pz_A_n hA).2.1, hL.2.1.trans (pz_A_n hA).2.2.1⟩
    unfold fX4_isTold
    rw [hL.1, (pz_A_n hA).2.1]
    have := (pz_A_n hA).1
    rw [if_neg (nI_nle (by omega) (by omega))]
/-- the bounds of keepers and pieces, told or not -/
theorem pz_KP (N : Nat) {KL : List Nat} {kc : Nat → zKC} {L : zLS} {mo : zMS} (h : pz_now KL kc L mo) : ∃ K P, K ≤ 6 ∧ P ≤ 8 ∧ L.1.1 6 = nI K ∧ mo.1.2 5 3 = nI K ∧ L.1.1 7 = nI P ∧ mo.1.2 5 4 = nI P ∧ ((0 < K ∨ 0 < P) → mo.1.1 7 = 1 ∧ fX4_isTold N L = some 1 ∧ ∃ Q T, pz_A (mo.1.2 5) K P Q T ∧ pz_H (mo.1.2 8) K P ∧ pz_L KL kc L (mo.1.2 5) (mo.1.2 8) K P Q ∧ L.1.1 3 = mo.1.2 5 5) := by
  rcases pz_nows N h with ⟨-, a, b, c, d, -⟩ | ⟨h1, h2, K, P, Q, T, hA, hH, hL, hl, a, b⟩
  · exact ⟨0, 0, by omega, by omega, a, b, c, d, fun h => by omega⟩
  · exact ⟨K, P, (pz_A_n hA).1.2.1, (pz_A_n hA).1.2.2.1, a, (pz_A_n hA).2.1, b, (pz_A_n hA).2.2.1, fun _ => ⟨h1, h2, Q, T, hA, hH, hL, hl⟩⟩
set_option maxHeartbeats 4000000 in
set_option maxRecDepth 100000 in
theorem ps_value {N : Nat} (hN : 200000 ≤ N) : zStep_value N pz_Inv := by
  intro KL kc on rw rd ft tr la mo hI x1
  rcases pz_nows N (mo := zMi mo 0 0) hI.2.2.2.2.2.1 with ⟨h7, -, -, -, -, ht⟩ | ⟨h7, ht, K, P, Q, T, hA, hH, hL, -⟩
  · have h7 : mo.1.1 7 = 0 := h7
    simp only [fX11_value, fX12_value, h7, ht, ↓reduceIte, Option.bind_some, or_self, or_false, false_or, or_true, true_or, and_true, true_and, and_false, false_and, not_true_eq_false, not_false_eq_true, pz_10, pz_01, eq_self]
    exact ⟨_, _, rfl, rfl, rfl, pz_ro 0 _ hI⟩
  have h7 : mo.1.1 7 = 1 := h7
  rcases pz_wi N x1 0 999 with h | ⟨h, -⟩
  · simp only [fX11_value, fX12_value, h7, ht, pz_in_0_999, h, ↓reduceIte, Option.bind_some, or_self, or_false, false_or, or_true, true_or, and_true, true_and, and_false, false_and, not_true_eq_false, not_false_eq_true, pz_10, pz_01, eq_self]
    exact ⟨_, _, rfl, rfl, rfl, pz_ro 0 _ hI⟩
  · obtain ⟨v1, v2⟩ := pz_value N hN hA hL x1
    simp only [fX11_value, fX12_value, h7, ht, pz_in_0_999, h, v1, v2, ↓reduceIte, Option.bind_some, or_self, or_false, false_or, or_true, true_or, and_true, true_and, and_false, false_and, not_true_eq_false, not_false_eq_true, pz_10, pz_01, eq_self]
    exact ⟨_, _, rfl, rfl, rfl, pz_ro 0 _ hI⟩
set_option maxHeartbeats 4000000 in
set_option maxRecDepth 100000 in
theorem ps_lostUse {N : Nat} : zStep_lostUse N pz_Inv := by
  intro KL kc on rw rd ft tr la mo hI x1 x2 x3
  obtain ⟨K, P, hK, hP, l6, a3, l7, a4, hh⟩ := pz_KP N (mo := zMi mo 0 0) hI.2.2.2.2.2.1
  rcases pz_pcs N hP l7 a4 x1 with ⟨h1, h2⟩ | ⟨p, hp, rfl, h1, h2⟩
  · simp only [fX11_lostUse, fX12_lostUse, h1, h2, ↓reduceIte, Option.bind_some, or_self, or_false, false_or, or_true, true_or, and_true, true_and, and_false, false_and, not_true_eq_false, not_false_eq_true, pz_10, pz_01, eq_self]
    exact ⟨_, _, rfl, rfl, rfl, pz_ro 0 _ hI⟩
  obtain ⟨h7, -, Q, T, hA, hH, hL, -⟩ := hh (.inr (by omega))
  have ey : ∀ x, fX12_isYear N x = fX11_within N x 0 999 := by
    intro x
    unfold fX12_isYear
    rw [pz_in_0_999]
    rcases pz_wi N x 0 999 with h | ⟨h, -⟩ <;> rw [h] <;> rfl
  rcases pz_wi N x2 0 999 with h3 | ⟨h3, h4, h5⟩
  · simp only [fX11_lostUse, fX12_lostUse, h1, h2, ey, h3, ↓reduceIte, Option.bind_some, or_self, or_false, false_or, or_true, true_or, and_true, true_and, and_false, false_and, not_true_eq_false, not_false_eq_true, pz_10, pz_01, eq_self]
    exact ⟨_, _, rfl, rfl, rfl, pz_ro 0 _ hI⟩
  have ex : fX11_lostUse N (la on.2.1) (nI p) x2 x3 = if x3 < x2 ∨ 999 < x3 then some (-1000001) else some (mo.1.2 5 (42 + p) * (x3 - x2)) := by
    have e5 : fX4_useOf N (la on.2.1) (nI p) = some (mo.1.2 5 (42 + p)) := by
      have := (hL.2.2.2.2.2.2.2.2.2.1 p hp).1
      rw [show mo.1.2 5 (42 + p) = (zMi mo 0 0).1.2 5 (42 + p) from rfl, ← this]
      have i0 := pz_ni (show p < 8 by omega) (by omega)
      simp only [fX4_useOf, h1, i0, nI_clamp (show p < 2 ^ 31 by omega), ↓reduceIte, Option.bind_some, or_self, or_false, false_or, or_true, true_or, and_true, true_and, and_false, false_and, not_true_eq_false, not_false_eq_true, pz_10, pz_01, eq_self]
    by_cases c1 : x3 < x2
    · have e : fX11_within N x3 x2 999 = some 0 := by unfold fX11_within; rw [if_pos c1]
      simp only [fX11_lostUse, h1, h3, e, c1, ↓reduceIte, Option.bind_some, or_self, or_false, false_or, or_true, true_or, and_true, true_and, and_false, false_and, not_true_eq_false, not_false_eq_true, pz_10, pz_01, eq_self]
    · by_cases c2 : 999 < x3
      · have e : fX11_within N x3 x2 999 = some 0 := by unfold fX11_within; rw [if_neg c1, if_pos c2]
        simp only [fX11_lostUse, h1, h3, e, c1, c2, ↓reduceIte, Option.bind_some, or_self, or_false, false_or, or_true, true_or, and_true, true_and, and_false, false_and, not_true_eq_false, not_false_eq_true, pz_10, pz_01, eq_self]
      · have e : fX11_within N x3 x2 999 = some 1 := by unfold fX11_within; rw [if_neg c1, if_neg c2]
        simp only [fX11_lostUse, h1, h3, e, e5, c1, c2, ↓reduceIte, Option.bind_some, or_self, or_false, false_or, or_true, true_or, and_true, true_and, and_false, false_and, not_true_eq_false, not_false_eq_true, pz_10, pz_01, eq_self]
  have er : fX12_lostUse N mo (nI p) x2 x3 = if x3 < x2 ∨ 999 < x3 then some (-1000001, zMi mo 0 0) else some (mo.1.2 5 (42 + p) * (x3 - x2), zMi mo 0 0) := by
    have e4 : (42 : Int32) + nI p = nI (42 + p) := by rw [show (42 : Int32) = nI 42 from rfl, nI_add]
    have i := pz_ni (show 42 + p < 58 by omega) (by omega)
    rcases pz_wi N x3 0 999 with h6 | ⟨h6, h7, h8⟩
    · have c : x3 < x2 ∨ 999 < x3 := by
        unfold fX11_within at h6
        by_cases c1 : x3 < 0
        · exact .inl (Int32.lt_of_lt_of_le c1 h4)
        · rw [if_neg c1] at h6
          by_cases c2 : 999 < x3
          · exact .inr c2
          · rw [if_neg c2] at h6; cases h6
      simp only [fX12_lostUse, h2, ey, h3, h6, c, ↓reduceIte, Option.bind_some, or_self, or_false, false_or, or_true, true_or, and_true, true_and, and_false, false_and, not_true_eq_false, not_false_eq_true, pz_10, pz_01, eq_self]
    · have c2 : ¬ 999 < x3 := Int32.not_lt.mpr h8
      by_cases c1 : x3 < x2
      · simp only [fX12_lostUse, h2, ey, h3, h6, c1, ↓reduceIte, Option.bind_some, or_self, or_false, false_or, or_true, true_or, and_true, true_and, and_false, false_and, not_true_eq_false, not_false_eq_true, pz_10, pz_01, eq_self]
      · simp only [fX12_lostUse, h2, ey, h3, h6, c1, c2, e4, i, nI_clamp (show 42 + p < 2 ^ 31 by omega), ↓reduceIte, Option.bind_some, or_self, or_false, false_or, or_true, true_or, and_true, true_and, and_false, false_and, not_true_eq_false, not_false_eq_true, pz_10, pz_01, eq_self]
  rw [ex, er]
  split
  · exact ⟨_, _, rfl, rfl, rfl, pz_ro 0 _ hI⟩
  · exact ⟨_, _, rfl, rfl, rfl, pz_ro 0 _ hI⟩
theorem pz_yr (N : Nat) (x : Int32) : fX12_isYear N x = fX11_within N x 0 999 := by
  unfold fX12_isYear
  rw [pz_in_0_999]
  rcases pz_wi N x 0 999 with h | ⟨h, -⟩ <;> rw [h] <;> rfl
theorem pz_i1 {x : Int32} : 1 ≤ x ↔ ¬ x ≤ 0 := by
  rw [Int32.le_iff_toInt_le, Int32.le_iff_toInt_le]
  have h1 : (1 : Int32).toInt = 1 := rfl
  have h0 : (0 : Int32).toInt = 0 := rfl
  omega
theorem pz_i1' {x : Int32} : x < 1 ↔ x ≤ 0 := by
  rw [Int32.lt_iff_toInt_lt, Int32.le_iff_toInt_le]
  have h1 : (1 : Int32).toInt = 1 := rfl
  have h0 : (0 : Int32).toInt = 0 := rfl
  omega
set_option maxHeartbeats 4000000 in
set_option maxRecDepth 100000 in
theorem ps_silence {N : Nat} (hN : 200000 ≤ N) : zStep_silence N pz_Inv := by
  intro KL kc on rw rd ft tr la mo hI x1 x2 x3 x4 x5
  obtain ⟨K, P, hK, hP, l6, a3, l7, a4, hh⟩ := pz_KP N (mo := zMi mo 0 0) hI.2.2.2.2.2.1
  rcases pz_kpr N (KL := KL) (kc := kc) hK l6 a3 x1 with ⟨h1, h2, -⟩ | ⟨a, ha, rfl, h1, h2⟩
  · simp only [fX11_silence, fX12_silence, h1, h2, ↓reduceIte, Option.bind_some, or_self, or_false, false_or, or_true, true_or, and_true, true_and, and_false, false_and, not_true_eq_false, not_false_eq_true, pz_10, pz_01, eq_self]
    exact ⟨_, _, rfl, rfl, rfl, pz_ro 0 _ hI⟩
  obtain ⟨h7, -, Q, T, hA, hH, hL, -⟩ := hh (.inl (by omega))
  rcases pz_kpr N (KL := KL) (kc := kc) hK l6 a3 x2 with ⟨g1, g2, -⟩ | ⟨b, hb, rfl, g1, g2⟩
  · simp only [fX11_silence, fX12_silence, h1, h2, g1, g2, ↓reduceIte, Option.bind_some, or_self, or_false, false_or, or_true, true_or, and_true, true_and, and_false, false_and, not_true_eq_false, not_false_eq_true, pz_10, pz_01, eq_self]
    exact ⟨_, _, rfl, rfl, rfl, pz_ro 0 _ hI⟩
  by_cases c : nI a = nI b
  · simp only [fX11_silence, fX12_silence, h1, h2, g1, g2, c, ↓reduceIte, Option.bind_some, or_self, or_false, false_or, or_true, true_or, and_true, true_and, and_false, false_and, not_true_eq_false, not_false_eq_true, pz_10, pz_01, eq_self]
    exact ⟨_, _, rfl, rfl, rfl, pz_ro 0 _ hI⟩
  rcases pz_pcs N hP l7 a4 x3 with ⟨p1, p2⟩ | ⟨p, hp, rfl, p1, p2⟩
  · simp only [fX11_silence, fX12_silence, h1, h2, g1, g2, c, p1, p2, ↓reduceIte, Option.bind_some, or_self, or_false, false_or, or_true, true_or, and_true, true_and, and_false, false_and, not_true_eq_false, not_false_eq_true, pz_10, pz_01, eq_self]
    exact ⟨_, _, rfl, rfl, rfl, pz_ro 0 _ hI⟩
  rcases pz_wi N x4 0 999 with h3 | ⟨h3, -⟩
  · simp only [fX11_silence, fX12_silence, h1, h2, g1, g2, c, p1, p2, pz_yr, h3, ↓reduceIte, Option.bind_some, or_self, or_false, false_or, or_true, true_or, and_true, true_and, and_false, false_and, not_true_eq_false, not_false_eq_true, pz_10, pz_01, eq_self]
    exact ⟨_, _, rfl, rfl, rfl, pz_ro 0 _ hI⟩
  rcases pz_wi N x5 0 1 with h4 | ⟨h4, -⟩
  · simp only [fX11_silence, fX12_silence, h1, h2, g1, g2, c, p1, p2, pz_yr, h3, pz_in_0_1, h4, ↓reduceIte, Option.bind_some, or_self, or_false, false_or, or_true, true_or, and_true, true_and, and_false, false_and, not_true_eq_false, not_false_eq_true, pz_10, pz_01, eq_self]
    exact ⟨_, _, rfl, rfl, rfl, pz_ro 0 _ hI⟩
  have k1 := pz_cnt N hA hL ha hp
  have k2 := pz_cnt N hA hL hb hp
  have k3 := pz_has N (zMi mo 0 0) (show a < 6 by omega) (show p < 8 by omega)
  have k4 := pz_has N (zMi mo 0 0) (show b < 6 by omega) (show p < 8 by omega)
  by_cases d1 : (zMi mo 0 0).1.2 8 (29 + 8 * a + p) ≤ 0
  · simp only [fX11_silence, fX12_silence, h1, h2, g1, g2, c, p1, p2, pz_yr, h3, pz_in_0_1, h4, k1, k2, k3, k4, pz_i1, pz_i1', d1, ↓reduceIte, Option.bind_some, or_self, or_false, false_or, or_true, true_or, and_true, true_and, and_false, false_and, not_true_eq_false, not_false_eq_true, pz_10, pz_01, eq_self]
    exact ⟨_, _, rfl, rfl, rfl, pz_ro 0 _ hI⟩
  by_cases d2 : (zMi mo 0 0).1.2 8 (29 + 8 * b + p) ≤ 0
  · simp only [fX11_silence, fX12_silence, h1, h2, g1, g2, c, p1, p2, pz_yr, h3, pz_in_0_1, h4, k1, k2, k3, k4, pz_i1, pz_i1', d1, d2, ↓reduceIte, Option.bind_some, or_self, or_false, false_or, or_true, true_or, and_true, true_and, and_false, false_and, not_true_eq_false, not_false_eq_true, pz_10, pz_01, eq_self]
    exact ⟨_, _, rfl, rfl, rfl, pz_ro 0 _ hI⟩
  obtain ⟨v, -, -, e1, e2⟩ := pz_had N hN hA hL hp
  have w := pz_worth N hN hA hL x4
  by_cases d3 : x5 = 0
  · simp only [fX11_silence, fX12_silence, h1, h2, g1, g2, c, p1, p2, pz_yr, h3, pz_in_0_1, h4, k1, k2, k3, k4, pz_i1, pz_i1', d1, d2, d3, e1, e2, (w _).1, (w _).2, ↓reduceIte, Option.bind_some, or_self, or_false, false_or, or_true, true_or, and_true, true_and, and_false, false_and, not_true_eq_false, not_false_eq_true, pz_10, pz_01, eq_self] at h4 ⊢
    exact ⟨_, _, rfl, rfl, rfl, pz_ro 0 _ hI⟩
  · simp only [fX11_silence, fX12_silence, h1, h2, g1, g2, c, p1, p2, pz_yr, h3, pz_in_0_1, h4, k1, k2, k3, k4, pz_i1, pz_i1', d1, d2, d3, e1, e2, (w _).1, (w _).2, ↓reduceIte, Option.bind_some, or_self, or_false, false_or, or_true, true_or, and_true, true_and, and_false, false_and, not_true_eq_false, not_false_eq_true, pz_10, pz_01, eq_self]
    exact ⟨_, _, rfl, rfl, rfl, pz_ro 0 _ hI⟩
