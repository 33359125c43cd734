/-! THE PURE LAYER: ask -/
set_option maxHeartbeats 4000000 in
set_option maxRecDepth 100000 in
theorem pz_pls (N : Nat) {tr : zOS} {mo m0 : zMS} (h : pz_trc tr mo m0) {KL : List Nat} {kc : Nat → zKC} {L : zLS} {K P Q T k a : Nat} (hA : pz_A (m0.1.2 5) K P Q T) (hL : pz_L KL kc L (m0.1.2 5) (m0.1.2 8) K P Q) (hk : k < K) (hc : (kc a).2.1 = nI k) : ∃ tr' mo', fX3_sizeAsked N kc tr L a = some (m0.1.2 8 (1 + k), tr') ∧ fX12_plainSize N mo (nI k) = some (m0.1.2 8 (1 + k), mo') ∧ pz_trc tr' mo' m0 := by
  obtain ⟨t1, m1, e1, e2, e3⟩ := pz_lv N h 10
  have hK := (pz_A_n hA).1
  refine ⟨t1, m1, ?_, ?_, e3⟩
  · simp only [fX3_sizeAsked, e1, hc, (pz_es N hA hL hk).1, ↓reduceIte, Option.bind_some, or_self, or_false, false_or, or_true, true_or, and_true, true_and, and_false, false_and, not_true_eq_false, not_false_eq_true]
  · have e : (1 : Int32) + nI k = nI (1 + k) := by rw [show (1 : Int32) = nI 1 from rfl, nI_add]
    have i := pz_ni (show 1 + k < 77 by omega) (by omega)
    obtain ⟨-, g, v, rfl⟩ := e3
    simp only [fX12_plainSize, e2, e, i, nI_clamp (show 1 + k < 2 ^ 31 by omega), ↓reduceIte, Option.bind_some, or_self, or_false, false_or, or_true, true_or, and_true, true_and, and_false, false_and, not_true_eq_false, not_false_eq_true]
    rfl
set_option maxHeartbeats 4000000 in
set_option maxRecDepth 100000 in
theorem pz_agm (N : Nat) {tr : zOS} {mo m0 : zMS} (h : pz_trc tr mo m0) {kc : Nat → zKC} {k a w n : Nat} (hk : k < 6) (hc : (kc a).2.1 = nI k) (hn : (kc a).2.2.1 = nI n) (e30 : m0.1.2 5 (30 + k) = nI n) (hw : w ≠ 4) (w5 : w ≤ 5) : ∃ tr' mo', fX0_markAsked N kc tr a = some (nI k + 10 * nI n, tr') ∧ fX12_ageMark N mo (nI k) (nI w) = some (nI k + 10 * nI n, mo') ∧ pz_trc tr' mo' m0 := by
  obtain ⟨t1, m1, a1, b1, h1⟩ := pz_lv N h 21
  obtain ⟨t2, m2, a2, b2, h2⟩ := pz_lv N h1 20
  refine ⟨t2, m2, ?_, ?_, h2⟩
  · simp only [fX0_markAsked, fX3_markAsked, a1, a2, hc, hn, ↓reduceIte, Option.bind_some, or_self, or_false, false_or, or_true, true_or, and_true, true_and, and_false, false_and, not_true_eq_false, not_false_eq_true]
  · have e : (30 : Int32) + nI k = nI (30 + k) := by rw [show (30 : Int32) = nI 30 from rfl, nI_add]
    have i := pz_ni (show 30 + k < 58 by omega) (by omega)
    have w4 : ¬ nI w = 4 := by rw [show (4 : Int32) = nI 4 from rfl, nI_eq (by omega) (by omega)]; exact hw
    obtain ⟨-, g, v, rfl⟩ := h2
    have e30' : (zMi (zMA m0 29 g) 30 v).1.2 5 (30 + k) = nI n := e30
    simp only [fX12_ageMark, w4, b1, b2, e, i, nI_clamp (show 30 + k < 2 ^ 31 by omega), e30', ↓reduceIte, Option.bind_some, or_self, or_false, false_or, or_true, true_or, and_true, true_and, and_false, false_and, not_true_eq_false, not_false_eq_true]
set_option maxHeartbeats 4000000 in
set_option maxRecDepth 100000 in
theorem pz_agc (N : Nat) {tr : zOS} {mo m0 : zMS} (h : pz_trc tr mo m0) {kc : Nat → zKC} {k a n : Nat} (hk : k < 6) (hc : (kc a).2.1 = nI k) (hn : (kc a).2.2.1 = nI n) (e30 : m0.1.2 5 (30 + k) = nI n) : ∃ tr' mo', fX1_markAsked N kc tr a = some (2 * (nI k + 10 * nI n), tr') ∧ fX12_ageMark N mo (nI k) 4 = some (2 * (nI k + 10 * nI n), mo') ∧ pz_trc tr' mo' m0 := by
  obtain ⟨t0, m00, a0, b0, h0⟩ := pz_lv N h 22
  obtain ⟨t1, m1, a1, b1, h1⟩ := pz_lv N h0 21
  obtain ⟨t2, m2, a2, b2, h2⟩ := pz_lv N h1 20
  refine ⟨t2, m2, ?_, ?_, h2⟩
  · simp only [fX1_markAsked, fX0_markAsked, fX3_markAsked, a0, a1, a2, hc, hn, ↓reduceIte, Option.bind_some, or_self, or_false, false_or, or_true, true_or, and_true, true_and, and_false, false_and, not_true_eq_false, not_false_eq_true]
  · have e : (30 : Int32) + nI k = nI (30 + k) := by rw [show (30 : Int32) = nI 30 from rfl, nI_add]
    have i := pz_ni (show 30 + k < 58 by omega) (by omega)
    obtain ⟨-, g, v, rfl⟩ := h2
    have e30' : (zMi (zMA m0 29 g) 30 v).1.2 5 (30 + k) = nI n := e30
    simp only [fX12_ageMark, b0, b1, b2, e, i, nI_clamp (show 30 + k < 2 ^ 31 by omega), e30', ↓reduceIte, Option.bind_some, or_self, or_false, false_or, or_true, true_or, and_true, true_and, and_false, false_and, not_true_eq_false, not_false_eq_true]
set_option maxHeartbeats 4000000 in
set_option maxRecDepth 100000 in
/-- an ask of a keeper: both answer alike, and leave alike -/
theorem pz_ask (N : Nat) (hN : 200000 ≤ N) {tr : zOS} {mo m0 : zMS} (h : pz_trc tr mo m0) {KL : List Nat} {kc : Nat → zKC} {L : zLS} {K P Q T k a w n c : Nat} (hA : pz_A (m0.1.2 5) K P Q T) (hH : pz_H (m0.1.2 8) K P) (hL : pz_L KL kc L (m0.1.2 5) (m0.1.2 8) K P Q) (hk : k < K) (w1 : 1 ≤ w) (w5 : w ≤ 5) (hc : kc a = (zko (nI w), nI k, nI n, nI c)) (e30 : m0.1.2 5 (30 + k) = nI n) : (∃ v tr' mo', (if (kc a).1 = 0 then (fX0_sizeAsked N kc tr L a).bind fun u => some (u.1, u.2) else if (kc a).1 = 1 then (fX1_sizeAsked N kc tr L a).bind fun u => some (u.1, u.2) else if (kc a).1 = 4 then (fX3_sizeAsked N kc tr L a).bind fun u => some (u.1, u.2) else if (kc a).1 = 7 then (fX8_sizeAsked N kc tr L a).bind fun u => some (u.1, u.2) else if (kc a).1 = 9 then (fX10_sizeAsked N kc tr L a).bind fun u => some (u.1, u.2) else none) = some (v, tr') ∧ (if pz_is w 2 then fX12_ageSize N mo (nI k) (nI w) else fX12_otherSize N mo (nI k) (nI w)) = some (v, mo') ∧ pz_trc tr' mo' m0) ∧ (∃ v tr' mo', (if (kc a).1 = 0 then (fX0_markAsked N kc tr a).bind fun u => some (u.1, u.2) else if (kc a).1 = 1 then (fX1_markAsked N kc tr a).bind fun u => some (u.1, u.2) else if (kc a).1 = 4 then (fX5_markAsked N kc tr L a).bind fun u => some (u.1, u.2) else if (kc a).1 = 7 then (fX8_markAsked N kc tr L a).bind fun u => some (u.1, u.2) else if (kc a).1 = 9 then (fX0_markAsked N kc tr a).bind fun u => some (u.1, u.2) else none) = some (v, tr') ∧ (if pz_is w 2 then fX12_ageMark N mo (nI k) (nI w) else fX12_otherMark N mo (nI k) (nI w)) = some (v, mo') ∧ pz_trc tr' mo' m0) := by
  have hK := (pz_A_n hA).1
  have hi : (kc a).2.1 = nI k := by rw [hc]
  have hn : (kc a).2.2.1 = nI n := by rw [hc]
  rcases (show w = 1 ∨ w = 2 ∨ w = 3 ∨ w = 4 ∨ w = 5 by omega) with rfl | rfl | rfl | rfl | rfl
  · have hk1 : (kc a).1 = 4 := by rw [hc]; rfl
    have hz : pz_is 1 2 = false := rfl
    have z1 : nI 1 = 1 := rfl
    constructor
    · obtain ⟨t1, m1, a1, b1, h1⟩ := pz_pls N h hA hL hk hi
      refine ⟨m0.1.2 8 (1 + k), t1, m1, ?_, ?_, h1⟩
      · simp only [hk1, a1, ↓reduceIte, Option.bind_some, or_self, or_false, false_or, or_true, true_or, and_true, true_and, and_false, false_and, not_true_eq_false, not_false_eq_true]; rfl
      · simp only [hz, z1, fX12_otherSize, b1, Bool.false_eq_true, ↓reduceIte, Option.bind_some, or_self, or_false, false_or, or_true, true_or, and_true, true_and, and_false, false_and, not_true_eq_false, not_false_eq_true]
    · obtain ⟨t1, m1, a1, b1, h1⟩ := pz_lv N h 23
      obtain ⟨t2, m2, a2, b2, h2⟩ := pz_lv N h1 20
      obtain ⟨t3, m3, a3, b3, h3⟩ := pz_pls N h2 hA hL hk hi
      refine ⟨nI k - m0.1.2 8 (1 + k), t3, m3, ?_, ?_, h3⟩
      · simp only [hk1, fX5_markAsked, fX3_markAsked, a1, a2, a3, hi, ↓reduceIte, Option.bind_some, or_self, or_false, false_or, or_true, true_or, and_true, true_and, and_false, false_and, not_true_eq_false, not_false_eq_true]; rfl
      · simp only [hz, z1, fX12_otherMark, fX12_otherSize, b1, b2, b3, Bool.false_eq_true, ↓reduceIte, Option.bind_some, or_self, or_false, false_or, or_true, true_or, and_true, true_and, and_false, false_and, not_true_eq_false, not_false_eq_true]
  · have hk1 : (kc a).1 = 0 := by rw [hc]; rfl
    have hz : pz_is 2 2 = true := rfl
    constructor
    · obtain ⟨t1, m1, a1, b1, h1⟩ := pz_lv N h 11
      obtain ⟨t2, m2, a2, b2, h2⟩ := pz_pls N h1 hA hL hk hi
      obtain ⟨t3, m3, a3, b3, h3⟩ := pz_agm N (w := 2) h2 (by omega) hi hn e30 (by omega) (by omega)
      refine ⟨m0.1.2 8 (1 + k) + (nI k + 10 * nI n), t3, m3, ?_, ?_, h3⟩
      · simp only [hk1, fX0_sizeAsked, a1, a2, a3, ↓reduceIte, Option.bind_some, or_self, or_false, false_or, or_true, true_or, and_true, true_and, and_false, false_and, not_true_eq_false, not_false_eq_true]
      · rw [show nI 2 = (2 : Int32) from rfl] at b3 ⊢
        simp only [hz, fX12_ageSize, b1, b2, b3, (show ¬ (2 : Int32) = 3 by decide), (show ¬ (2 : Int32) = 4 by decide), ↓reduceIte, Option.bind_some, or_self, or_false, false_or, or_true, true_or, and_true, true_and, and_false, false_and, not_true_eq_false, not_false_eq_true]
    · obtain ⟨t3, m3, a3, b3, h3⟩ := pz_agm N (w := 2) h (by omega) hi hn e30 (by omega) (by omega)
      refine ⟨nI k + 10 * nI n, t3, m3, ?_, ?_, h3⟩
      · simp only [hk1, a3, ↓reduceIte, Option.bind_some, or_self, or_false, false_or, or_true, true_or, and_true, true_and, and_false, false_and, not_true_eq_false, not_false_eq_true]
      · simp only [hz, b3, ↓reduceIte, Option.bind_some, or_self, or_false, false_or, or_true, true_or, and_true, true_and, and_false, false_and, not_true_eq_false, not_false_eq_true]
  · have hk1 : (kc a).1 = 9 := by rw [hc]; rfl
    have hz : pz_is 3 2 = true := rfl
    constructor
    · obtain ⟨t0, m00, a0, b0, h0⟩ := pz_lv N h 12
      obtain ⟨t1, m1, a1, b1, h1⟩ := pz_lv N h0 11
      obtain ⟨t2, m2, a2, b2, h2⟩ := pz_pls N h1 hA hL hk hi
      obtain ⟨t3, m3, a3, b3, h3⟩ := pz_agm N (w := 3) h2 (by omega) hi hn e30 (by omega) (by omega)
      refine ⟨-(m0.1.2 8 (1 + k) + (nI k + 10 * nI n)), t3, m3, ?_, ?_, h3⟩
      · simp only [hk1, fX10_sizeAsked, fX0_sizeAsked, a0, a1, a2, a3, (show ¬ (9 : Nat) = 0 by decide), (show ¬ (9 : Nat) = 1 by decide), (show ¬ (9 : Nat) = 4 by decide), (show ¬ (9 : Nat) = 7 by decide), Int32.zero_sub, ↓reduceIte, Option.bind_some, or_self, or_false, false_or, or_true, true_or, and_true, true_and, and_false, false_and, not_true_eq_false, not_false_eq_true]
      · rw [show nI 3 = (3 : Int32) from rfl] at b3 ⊢
        simp only [hz, fX12_ageSize, b0, b1, b2, b3, (show ¬ (3 : Int32) = 2 by decide), ↓reduceIte, Option.bind_some, or_self, or_false, false_or, or_true, true_or, and_true, true_and, and_false, false_and, not_true_eq_false, not_false_eq_true]
    · obtain ⟨t3, m3, a3, b3, h3⟩ := pz_agm N (w := 3) h (by omega) hi hn e30 (by omega) (by omega)
      refine ⟨nI k + 10 * nI n, t3, m3, ?_, ?_, h3⟩
      · simp only [hk1, a3, (show ¬ (9 : Nat) = 0 by decide), (show ¬ (9 : Nat) = 1 by decide), (show ¬ (9 : Nat) = 4 by decide), (show ¬ (9 : Nat) = 7 by decide), ↓reduceIte, Option.bind_some, or_self, or_false, false_or, or_true, true_or, and_true, true_and, and_false, false_and, not_true_eq_false, not_false_eq_true]
      · simp only [hz, b3, ↓reduceIte, Option.bind_some, or_self, or_false, false_or, or_true, true_or, and_true, true_and, and_false, false_and, not_true_eq_false, not_false_eq_true]
  · have hk1 : (kc a).1 = 1 := by rw [hc]; rfl
    have hz : pz_is 4 2 = true := rfl
    have z4 : nI 4 = (4 : Int32) := rfl
    constructor
    · obtain ⟨t0, m00, a0, b0, h0⟩ := pz_lv N h 13
      obtain ⟨t1, m1, a1, b1, h1⟩ := pz_lv N h0 11
      obtain ⟨t2, m2, a2, b2, h2⟩ := pz_pls N h1 hA hL hk hi
      obtain ⟨t3, m3, a3, b3, h3⟩ := pz_agc N h2 (by omega) hi hn e30
      obtain ⟨v, p1, p2⟩ : ∃ v, fX4_piecesOf N L (nI k) = some v ∧ fX12_piecesOf N m3 (nI k) = some v := by
        obtain ⟨-, g, u, rfl⟩ := h3
        exact pz_pcO N hN (mo := zMi (zMA m0 29 g) 30 u) hA hH hL hk
      refine ⟨m0.1.2 8 (1 + k) + 2 * (nI k + 10 * nI n) + v, t3, m3, ?_, ?_, h3⟩
      · simp only [hk1, fX1_sizeAsked, fX0_sizeAsked, a0, a1, a2, a3, hi, p1, (show ¬ (1 : Nat) = 0 by decide), ↓reduceIte, Option.bind_some, or_self, or_false, false_or, or_true, true_or, and_true, true_and, and_false, false_and, not_true_eq_false, not_false_eq_true]
      · rw [z4]
        simp only [hz, fX12_ageSize, b0, b1, b2, b3, p2, (show ¬ (4 : Int32) = 2 by decide), (show ¬ (4 : Int32) = 3 by decide), ↓reduceIte, Option.bind_some, or_self, or_false, false_or, or_true, true_or, and_true, true_and, and_false, false_and, not_true_eq_false, not_false_eq_true]
    · obtain ⟨t3, m3, a3, b3, h3⟩ := pz_agc N h (by omega) hi hn e30
      refine ⟨2 * (nI k + 10 * nI n), t3, m3, ?_, ?_, h3⟩
      · simp only [hk1, a3, (show ¬ (1 : Nat) = 0 by decide), ↓reduceIte, Option.bind_some, or_self, or_false, false_or, or_true, true_or, and_true, true_and, and_false, false_and, not_true_eq_false, not_false_eq_true]
      · rw [z4]
        simp only [hz, b3, ↓reduceIte, Option.bind_some, or_self, or_false, false_or, or_true, true_or, and_true, true_and, and_false, false_and, not_true_eq_false, not_false_eq_true]
  · have hk1 : (kc a).1 = 7 := by rw [hc]; rfl
    have hz : pz_is 5 2 = false := rfl
    have z5 : ¬ nI 5 = 1 := by decide
    constructor
    · obtain ⟨t1, m1, a1, b1, h1⟩ := pz_lv N h 14
      obtain ⟨t2, m2, a2, b2, h2⟩ := pz_pls N h1 hA hL hk hi
      refine ⟨m0.1.2 8 (1 + k) - 100, t2, m2, ?_, ?_, h2⟩
      · simp only [hk1, fX8_sizeAsked, a1, a2, (show ¬ (7 : Nat) = 0 by decide), (show ¬ (7 : Nat) = 1 by decide), (show ¬ (7 : Nat) = 4 by decide), ↓reduceIte, Option.bind_some, or_self, or_false, false_or, or_true, true_or, and_true, true_and, and_false, false_and, not_true_eq_false, not_false_eq_true]
      · simp only [hz, z5, fX12_otherSize, b1, b2, Bool.false_eq_true, ↓reduceIte, Option.bind_some, or_self, or_false, false_or, or_true, true_or, and_true, true_and, and_false, false_and, not_true_eq_false, not_false_eq_true]
    · obtain ⟨t1, m1, a1, b1, h1⟩ := pz_lv N h 24
      obtain ⟨t2, m2, a2, b2, h2⟩ := pz_lv N h1 20
      obtain ⟨t3, m3, a3, b3, h3⟩ := pz_lv N h2 14
      obtain ⟨t4, m4, a4, b4, h4⟩ := pz_pls N h3 hA hL hk hi
      refine ⟨nI k + (m0.1.2 8 (1 + k) - 100), t4, m4, ?_, ?_, h4⟩
      · simp only [hk1, fX8_markAsked, fX8_sizeAsked, fX3_markAsked, a1, a2, a3, a4, hi, (show ¬ (7 : Nat) = 0 by decide), (show ¬ (7 : Nat) = 1 by decide), (show ¬ (7 : Nat) = 4 by decide), ↓reduceIte, Option.bind_some, or_self, or_false, false_or, or_true, true_or, and_true, true_and, and_false, false_and, not_true_eq_false, not_false_eq_true]
      · simp only [hz, z5, fX12_otherMark, fX12_otherSize, b1, b2, b3, b4, Bool.false_eq_true, ↓reduceIte, Option.bind_some, or_self, or_false, false_or, or_true, true_or, and_true, true_and, and_false, false_and, not_true_eq_false, not_false_eq_true]
set_option maxHeartbeats 4000000 in
set_option maxRecDepth 100000 in
theorem ps_ask {N : Nat} (hN : 200000 ≤ N) : zStep_ask N pz_Inv := by
  intro KL kc on rw rd ft tr la mo hI x1 x2
  obtain ⟨K, P, hK, hP, l6, a3, l7, a4, hh⟩ := pz_KP N (mo := zMi mo 0 0) hI.2.2.2.2.2.1
  rcases pz_kpr N (KL := KL) (kc := kc) hK l6 a3 x1 with ⟨h1, h2, h3⟩ | ⟨k, hk, rfl, h1, h2⟩
  · simp only [fX11_ask, fX12_ask, h2, h3, ↓reduceIte, Option.bind_some, or_self, or_false, false_or, or_true, true_or, and_true, true_and, and_false, false_and, not_true_eq_false, not_false_eq_true, pz_10, pz_01, eq_self]
    exact ⟨_, _, rfl, rfl, rfl, pz_ro 0 _ hI⟩
  obtain ⟨h7, -, Q, T, hA, hH, hL, hl⟩ := hh (.inl (by omega))
  obtain ⟨a, w, n, c, ea, w1, w5, n60, c1, c9, e1, e2, e3, hc, hz, hat⟩ := pz_kAt N hA hL hk
  have e1' : mo.1.2 5 (24 + k) = nI w := e1
  have hz' : (¬ zkd KL kc a) = False := eq_false (fun h => h hz)
  rcases pz_wi N x2 0 1 with h4 | ⟨h4, -⟩
  · simp only [fX11_ask, fX12_ask, h2, hat, hz', pz_in_0_1, h4, ↓reduceIte, Option.bind_some, or_self, or_false, false_or, or_true, true_or, and_true, true_and, and_false, false_and, not_true_eq_false, not_false_eq_true, pz_10, pz_01, eq_self]
    exact ⟨_, _, rfl, rfl, rfl, pz_ro 0 _ hI⟩
  have e : (24 : Int32) + nI k = nI (24 + k) := by rw [show (24 : Int32) = nI 24 from rfl, nI_add]
  have i := pz_ni (show 24 + k < 58 by omega) (by omega)
  have cl := nI_clamp (show 24 + k < 2 ^ 31 by omega)
  have q3 := pz_isR N w1 w5 (f := 2) (by omega)
  rw [show nI 2 = (2 : Int32) from rfl] at q3
  have t0 : pz_trc (zpi tr 1 0) (zMi (zMi mo 0 0) 30 0) (zMi mo 0 0) := by
    refine ⟨⟨0, by omega, rfl, rfl, fun i hi => by omega⟩, (zMi mo 0 0).1.2 29, 0, ?_⟩
    rw [pz_MA0]
  obtain ⟨⟨v1, t1, m1, p1, q1, r1⟩, v2, t2, m2, p2, q2, r2⟩ := pz_ask N hN t0 hA hH hL hk w1 w5 hc e2
  have fin : ∀ t m, pz_trc t m (zMi mo 0 0) → pz_Inv KL kc on rw rd ft t (va_up la on.2.1 (la on.2.1)) m := by
    intro t m hm
    obtain ⟨ht, g, v, rfl⟩ := hm
    rw [pz_upA]
    exact ⟨hI.1, hI.2.1, hI.2.2.1, hI.2.2.2.1, ht, hI.2.2.2.2.2⟩
  by_cases d : x2 = 0
  · have er : fX12_ask N mo (nI k) x2 = some (v1, m1) := by
      rw [← q1]
      simp only [fX12_ask, h2, pz_in_0_1, h4, e, i, cl, e1', q3, pz_if10, ↓reduceIte, Option.bind_some, or_self, or_false, false_or, or_true, true_or, and_true, true_and, and_false, false_and, not_true_eq_false, not_false_eq_true, pz_10, pz_01, eq_self]
      cases pz_is w 2
      · simp only [Bool.false_eq_true, ↓reduceIte]
        rw [if_pos d]
        cases fX12_otherSize N (zMi (zMi mo 0 0) 30 0) (nI k) (nI w) <;> rfl
      · simp only [↓reduceIte]
        rw [if_pos d]
        cases fX12_ageSize N (zMi (zMi mo 0 0) 30 0) (nI k) (nI w) <;> rfl
    have ec : fX11_ask N KL kc tr (la on.2.1) (nI k) x2 = some (v1, t1) := by
      rw [← p1]
      simp only [fX11_ask, fX9_clear, hat, hz', h4, ↓reduceIte, Option.bind_some, or_self, or_false, false_or, or_true, true_or, and_true, true_and, and_false, false_and, not_true_eq_false, not_false_eq_true, pz_10, pz_01, eq_self]
      rw [if_pos d]
    rw [ec, er]
    exact ⟨_, _, rfl, rfl, rfl, fin _ _ r1⟩
  · have er : fX12_ask N mo (nI k) x2 = some (v2, m2) := by
      rw [← q2]
      simp only [fX12_ask, h2, pz_in_0_1, h4, e, i, cl, e1', q3, pz_if10, ↓reduceIte, Option.bind_some, or_self, or_false, false_or, or_true, true_or, and_true, true_and, and_false, false_and, not_true_eq_false, not_false_eq_true, pz_10, pz_01, eq_self]
      cases pz_is w 2
      · simp only [Bool.false_eq_true, ↓reduceIte]
        rw [if_neg d]
        cases fX12_otherMark N (zMi (zMi mo 0 0) 30 0) (nI k) (nI w) <;> rfl
      · simp only [↓reduceIte]
        rw [if_neg d]
        cases fX12_ageMark N (zMi (zMi mo 0 0) 30 0) (nI k) (nI w) <;> rfl
    have ec : fX11_ask N KL kc tr (la on.2.1) (nI k) x2 = some (v2, t2) := by
      rw [← p2]
      simp only [fX11_ask, fX9_clear, hat, hz', h4, ↓reduceIte, Option.bind_some, or_self, or_false, false_or, or_true, true_or, and_true, true_and, and_false, false_and, not_true_eq_false, not_false_eq_true, pz_10, pz_01, eq_self]
      rw [if_neg d]
    rw [ec, er]
    exact ⟨_, _, rfl, rfl, rfl, fin _ _ r2⟩
