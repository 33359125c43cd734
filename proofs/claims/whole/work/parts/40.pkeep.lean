/-! THE PURE LAYER: keeper, piece, tell, kind, as, ask -/
set_option maxHeartbeats 4000000 in
set_option maxRecDepth 100000 in
theorem pz_pc0 (N : Nat) (mo : zMS) {k P : Nat} (hk : k < 6) (hz : ∀ p, P ≤ p → p < 8 → mo.1.2 8 (29 + 8 * k + p) = 0) : ∀ n p c, P ≤ p → p ≤ 8 → 8 - p < n → fX12_piecesOf_l1 N mo (nI k) n c (nI p) = some c := by
  intro n
  induction n with
  | zero => intro p c h1 h2 h3; omega
  | succ n ih =>
    intro p c h1 h2 h3
    rcases Nat.lt_or_ge p 8 with h4 | h4
    · have g1 : ¬ (8 : Int32) ≤ nI p := nI_ge (b := 8) h4 (by omega)
      have e : (29 : Int32) + (8 : Int32) * nI k + nI p = nI (29 + 8 * k + p) := by rw [show (29 : Int32) = nI 29 from rfl, show (8 : Int32) = nI 8 from rfl, pk_mul, nI_add, nI_add]
      have i := pz_ni (show 29 + 8 * k + p < 77 by omega) (by omega)
      simp only [fX12_piecesOf_l1, g1, e, i, nI_clamp (show 29 + 8 * k + p < 2 ^ 31 by omega), hz p h1 h4, nI_1, Int32.add_zero, ↓reduceIte, Option.bind_some, or_self, or_false, false_or, or_true, true_or, and_true, true_and, and_false, false_and, not_true_eq_false, not_false_eq_true]
      exact ih (p + 1) c (by omega) (by omega) (by omega)
    · have e : p = 8 := by omega
      subst e
      rfl
set_option maxHeartbeats 4000000 in
set_option maxRecDepth 100000 in
theorem pz_pcL (N : Nat) {KL : List Nat} {kc : Nat → zKC} {L : zLS} {mo : zMS} {K P Q T : Nat} (h : pz_A (mo.1.2 5) K P Q T) (hH : pz_H (mo.1.2 8) K P) (hL : pz_L KL kc L (mo.1.2 5) (mo.1.2 8) K P Q) {k : Nat} (hk : k < K) : ∀ n p c, p ≤ P → 8 - p < n → ∃ v, fX4_piecesOf_l1 N L (nI k) n c (nI p) = some v ∧ fX12_piecesOf_l1 N mo (nI k) n c (nI p) = some v := by
  obtain ⟨⟨hK1, hK6, hP8, hQ1, hQ8, hT1, hT60⟩, hA3, hA4, hA2, hA1, hA0⟩ := pz_A_n h
  have l7 : L.1.1 7 = nI P := hL.2.1.trans hA4
  intro n
  induction n with
  | zero => intro p c h1 h2; omega
  | succ n ih =>
    intro p c h1 h2
    rcases Nat.lt_or_ge p P with h4 | h4
    · have g1 : ¬ (8 : Int32) ≤ nI p := nI_ge (b := 8) (by omega) (by omega)
      have g2 : ¬ nI P ≤ nI p := nI_ge h4 (by omega)
      have e : (29 : Int32) + (8 : Int32) * nI k + nI p = nI (29 + 8 * k + p) := by rw [show (29 : Int32) = nI 29 from rfl, show (8 : Int32) = nI 8 from rfl, pk_mul, nI_add, nI_add]
      have i := pz_ni (show 29 + 8 * k + p < 77 by omega) (by omega)
      obtain ⟨v, e1, e2⟩ := ih (p + 1) (c + mo.1.2 8 (29 + 8 * k + p)) (by omega) (by omega)
      refine ⟨v, ?_, ?_⟩
      · simp only [fX4_piecesOf_l1, l7, g2, pz_cnt N h hL hk h4, nI_1, ↓reduceIte, Option.bind_some, or_self, or_false, false_or, or_true, true_or, and_true, true_and, and_false, false_and, not_true_eq_false, not_false_eq_true]
        exact e1
      · simp only [fX12_piecesOf_l1, g1, e, i, nI_clamp (show 29 + 8 * k + p < 2 ^ 31 by omega), nI_1, ↓reduceIte, Option.bind_some, or_self, or_false, false_or, or_true, true_or, and_true, true_and, and_false, false_and, not_true_eq_false, not_false_eq_true]
        exact e2
    · have e : p = P := by omega
      subst e
      refine ⟨c, ?_, pz_pc0 N mo (by omega) (hH.2 k · hk) (n + 1) p c (by omega) (by omega) h2⟩
      have g2 : nI p ≤ nI p := Int32.le_refl _
      simp only [fX4_piecesOf_l1, l7, g2, ↓reduceIte, Option.bind_some, or_self, or_false, false_or, or_true, true_or, and_true, true_and, and_false, false_and, not_true_eq_false, not_false_eq_true]
set_option maxHeartbeats 4000000 in
set_option maxRecDepth 100000 in
theorem pz_pcO (N : Nat) (hN : 200000 ≤ N) {KL : List Nat} {kc : Nat → zKC} {L : zLS} {mo : zMS} {K P Q T : Nat} (h : pz_A (mo.1.2 5) K P Q T) (hH : pz_H (mo.1.2 8) K P) (hL : pz_L KL kc L (mo.1.2 5) (mo.1.2 8) K P Q) {k : Nat} (hk : k < K) : ∃ v, fX4_piecesOf N L (nI k) = some v ∧ fX12_piecesOf N mo (nI k) = some v := by
  obtain ⟨v, e1, e2⟩ := pz_pcL N h hH hL hk N 0 0 (by omega) (by omega)
  rw [show nI 0 = (0 : Int32) from rfl] at e1 e2
  exact ⟨v, by unfold fX4_piecesOf; rw [e1]; rfl, by unfold fX12_piecesOf; rw [e2]; rfl⟩
set_option maxHeartbeats 4000000 in
set_option maxRecDepth 100000 in
/-- what a keeper has EARNED and SOLD, as both have it -/
theorem pz_es (N : Nat) {KL : List Nat} {kc : Nat → zKC} {L : zLS} {A H : Nat → Int32} {K P Q T : Nat} (h : pz_A A K P Q T) (hL : pz_L KL kc L A H K P Q) {k : Nat} (hk : k < K) : fX4_earnedBy N L (nI k) = some (H (1 + k)) ∧ fX4_soldBy N L (nI k) = some (H (7 + k)) := by
  obtain ⟨⟨hK1, hK6, hP8, hQ1, hQ8, hT1, hT60⟩, hA3, hA4, hA2, hA1, hA0⟩ := pz_A_n h
  have l6 := hL.1
  have l15 := hL.2.2.2.2.2.2.2.2.2.2.1 k hk
  rw [← l15.1, ← l15.2]
  constructor
  · simp (disch := omega) only [fX4_earnedBy, fX4_isKeeper, l6, hA3, pzl_0, pzl_1, pzl_2, pzl_3, pzl_4, pzl_5, pzl_6, pzl_7, pzl_8, pzl_9, pzl_10, pzl_13, pzl_16, pzl_21, pzl_24, pzl_29, pzl_30, pzl_36, pzl_40, pzl_42, pzl_50, pzl_58, pzl_77, pzl_116, pzl_120, pzl_154, pzl_320, pzl_500, nI_add, pk_mul, nI_clamp, nI_leI, nI_ltI, nI_eq, pz_leF, pz_leT, pz_ltF, pz_ltT, pz_eqF, pz_eqT, ↓reduceIte, Option.bind_some, or_self, or_false, false_or, or_true, true_or, and_true, true_and, and_false, false_and, not_true_eq_false, not_false_eq_true, ↓reduceIte, Option.bind_some, or_self, or_false, false_or, or_true, true_or, and_true, true_and, and_false, false_and, not_true_eq_false, not_false_eq_true]
  · simp (disch := omega) only [fX4_soldBy, fX4_isKeeper, l6, hA3, pzl_0, pzl_1, pzl_2, pzl_3, pzl_4, pzl_5, pzl_6, pzl_7, pzl_8, pzl_9, pzl_10, pzl_13, pzl_16, pzl_21, pzl_24, pzl_29, pzl_30, pzl_36, pzl_40, pzl_42, pzl_50, pzl_58, pzl_77, pzl_116, pzl_120, pzl_154, pzl_320, pzl_500, nI_add, pk_mul, nI_clamp, nI_leI, nI_ltI, nI_eq, pz_leF, pz_leT, pz_ltF, pz_ltT, pz_eqF, pz_eqT, ↓reduceIte, Option.bind_some, or_self, or_false, false_or, or_true, true_or, and_true, true_and, and_false, false_and, not_true_eq_false, not_false_eq_true, ↓reduceIte, Option.bind_some, or_self, or_false, false_or, or_true, true_or, and_true, true_and, and_false, false_and, not_true_eq_false, not_false_eq_true]
set_option maxHeartbeats 4000000 in
set_option maxRecDepth 100000 in
theorem ps_keeper {N : Nat} (hN : 200000 ≤ N) : zStep_keeper N pz_Inv := by
  intro KL kc on rw rd ft tr la mo hI x1 x2
  obtain ⟨K, P, hK, hP, l6, a3, l7, a4, hh⟩ := pz_KP N (mo := zMi mo 0 0) hI.2.2.2.2.2.1
  rcases pz_kpr N (KL := KL) (kc := kc) hK l6 a3 x1 with ⟨h1, h2, -⟩ | ⟨k, hk, rfl, h1, h2⟩
  · simp only [fX11_keeper, fX12_keeper, h1, h2, ↓reduceIte, Option.bind_some, or_self, or_false, false_or, or_true, true_or, and_true, true_and, and_false, false_and, not_true_eq_false, not_false_eq_true, pz_10, pz_01, eq_self]
    exact ⟨_, _, rfl, rfl, rfl, pz_ro 0 _ hI⟩
  obtain ⟨h7, -, Q, T, hA, hH, hL, -⟩ := hh (.inl (by omega))
  obtain ⟨e15, e16⟩ := pz_es N hA hL hk
  obtain ⟨v, v1, v2⟩ := pz_pcO N hN hA hH hL hk
  rcases pz_pcs N hP l7 a4 (x2 - 10) with ⟨p1, p2⟩ | ⟨p, hp, px, p1, p2⟩
  · by_cases c0 : x2 = 0
    · have e : (1 : Int32) + nI k = nI (1 + k) := by rw [show (1 : Int32) = nI 1 from rfl, nI_add]
      have i := pz_ni (show 1 + k < 77 by omega) (by omega)
      simp only [fX11_keeper, fX12_keeper, h1, h2, p1, p2, e15, ↓reduceIte, Option.bind_some, or_self, or_false, false_or, or_true, true_or, and_true, true_and, and_false, false_and, not_true_eq_false, not_false_eq_true, pz_10, pz_01, eq_self]
      simp only [c0, e, i, nI_clamp (show 1 + k < 2 ^ 31 by omega), ↓reduceIte, Option.bind_some, or_self, or_false, false_or, or_true, true_or, and_true, true_and, and_false, false_and, not_true_eq_false, not_false_eq_true]
      exact ⟨_, _, rfl, rfl, rfl, pz_ro 0 _ hI⟩
    by_cases c1 : x2 = 1
    · simp only [fX11_keeper, fX12_keeper, h1, h2, p1, p2, v1, v2, c0, c1, ↓reduceIte, Option.bind_some, or_self, or_false, false_or, or_true, true_or, and_true, true_and, and_false, false_and, not_true_eq_false, not_false_eq_true, pz_10, pz_01, eq_self] at p1 p2 ⊢
      exact ⟨_, _, rfl, rfl, rfl, pz_ro 0 _ hI⟩
    by_cases c2 : x2 = 2
    · have e : (7 : Int32) + nI k = nI (7 + k) := by rw [show (7 : Int32) = nI 7 from rfl, nI_add]
      have i := pz_ni (show 7 + k < 77 by omega) (by omega)
      simp only [fX11_keeper, fX12_keeper, h1, h2, p1, p2, e16, ↓reduceIte, Option.bind_some, or_self, or_false, false_or, or_true, true_or, and_true, true_and, and_false, false_and, not_true_eq_false, not_false_eq_true, pz_10, pz_01, eq_self]
      simp only [c2, (show ¬ (2 : Int32) = 0 by decide), (show ¬ (2 : Int32) = 1 by decide), e, i, nI_clamp (show 7 + k < 2 ^ 31 by omega), ↓reduceIte, Option.bind_some, or_self, or_false, false_or, or_true, true_or, and_true, true_and, and_false, false_and, not_true_eq_false, not_false_eq_true]
      exact ⟨_, _, rfl, rfl, rfl, pz_ro 0 _ hI⟩
    simp only [fX11_keeper, fX12_keeper, h1, h2, p1, p2, c0, c1, c2, ↓reduceIte, Option.bind_some, or_self, or_false, false_or, or_true, true_or, and_true, true_and, and_false, false_and, not_true_eq_false, not_false_eq_true, pz_10, pz_01, eq_self]
    by_cases c3 : x2 < 10
    · simp only [c3, ↓reduceIte, Option.bind_some, or_self, or_false, false_or, or_true, true_or, and_true, true_and, and_false, false_and, not_true_eq_false, not_false_eq_true]
      exact ⟨_, _, rfl, rfl, rfl, pz_ro 0 _ hI⟩
    · simp only [c3, ↓reduceIte, Option.bind_some, or_self, or_false, false_or, or_true, true_or, and_true, true_and, and_false, false_and, not_true_eq_false, not_false_eq_true]
      exact ⟨_, _, rfl, rfl, rfl, pz_ro 0 _ hI⟩
  · have ex : x2 = nI (10 + p) := by
      have : x2 = (x2 - 10) + 10 := (Int32.sub_add_cancel _ _).symm
      rw [this, px, show (10 : Int32) = nI 10 from rfl, nI_add, Nat.add_comm]
    have c0 : ¬ x2 = 0 := by rw [ex]; exact nI_ne0 (by omega) (by omega)
    have c1 : ¬ x2 = 1 := by rw [ex, show (1 : Int32) = nI 1 from rfl, nI_eq (by omega) (by omega)]; omega
    have c2 : ¬ x2 = 2 := by rw [ex, show (2 : Int32) = nI 2 from rfl, nI_eq (by omega) (by omega)]; omega
    have c3 : ¬ x2 < 10 := by rw [ex]; exact nI_nlt (b := 10) (by omega) (by omega)
    have e : (29 : Int32) + (8 : Int32) * nI k + x2 - 10 = nI (29 + 8 * k + p) := by
      rw [ex, show (29 : Int32) = nI 29 from rfl, show (8 : Int32) = nI 8 from rfl, show (10 : Int32) = nI 10 from rfl, pk_mul, nI_add, nI_add, pk_sub (by omega)]
      congr 1
      omega
    have i := pz_ni (show 29 + 8 * k + p < 77 by omega) (by omega)
    rw [px] at p1 p2
    have ec := pz_cnt N hA hL hk hp
    simp only [fX11_keeper, fX12_keeper, h1, h2, px, p1, p2, ec, c0, c1, c2, c3, e, i, nI_clamp (show 29 + 8 * k + p < 2 ^ 31 by omega), ↓reduceIte, Option.bind_some, or_self, or_false, false_or, or_true, true_or, and_true, true_and, and_false, false_and, not_true_eq_false, not_false_eq_true, pz_10, pz_01, eq_self]
    exact ⟨_, _, rfl, rfl, rfl, pz_ro 0 _ hI⟩
set_option maxHeartbeats 4000000 in
set_option maxRecDepth 100000 in
theorem ps_piece {N : Nat} (hN : 200000 ≤ N) : zStep_piece N pz_Inv := by
  intro KL kc on rw rd ft tr la mo hI x1 x2
  obtain ⟨K, P, hK, hP, l6, a3, l7, a4, hh⟩ := pz_KP N (mo := zMi mo 0 0) hI.2.2.2.2.2.1
  rcases pz_pcs N hP l7 a4 x1 with ⟨h1, h2⟩ | ⟨p, hp, rfl, h1, h2⟩
  · simp only [fX11_piece, fX12_piece, h1, h2, ↓reduceIte, Option.bind_some, or_self, or_false, false_or, or_true, true_or, and_true, true_and, and_false, false_and, not_true_eq_false, not_false_eq_true, pz_10, pz_01, eq_self]
    exact ⟨_, _, rfl, rfl, rfl, pz_ro 0 _ hI⟩
  obtain ⟨h7, -, Q, T, hA, hH, hL, -⟩ := hh (.inr (by omega))
  obtain ⟨l12, -, l17, l18⟩ := hL.2.2.2.2.2.2.2.2.2.1 p hp
  obtain ⟨v, w1, w2, w3, w4⟩ := pz_had N hN hA hL hp
  have i8 := pz_ni (show p < 8 by omega) (by omega)
  have cl := nI_clamp (show p < 2 ^ 31 by omega)
  have k0 : (0 : Int32).toNatClampNeg = 0 := rfl
  unfold fX11_piece fX12_piece
  by_cases c0 : x2 = 0
  · have e : (42 : Int32) + nI p = nI (42 + p) := by rw [show (42 : Int32) = nI 42 from rfl, nI_add]
    have i := pz_ni (show 42 + p < 58 by omega) (by omega)
    simp only [h1, h2, fX4_useOf, i8, cl, l12, c0, e, i, nI_clamp (show 42 + p < 2 ^ 31 by omega), ↓reduceIte, Option.bind_some, or_self, or_false, false_or, or_true, true_or, and_true, true_and, and_false, false_and, not_true_eq_false, not_false_eq_true, pz_10, pz_01, eq_self]
    exact ⟨_, _, rfl, rfl, rfl, pz_ro 0 _ hI⟩
  by_cases c1 : x2 = 1
  · simp only [h1, h2, w1, w2, c1, ↓reduceIte, Option.bind_some, or_self, or_false, false_or, or_true, true_or, and_true, true_and, and_false, false_and, not_true_eq_false, not_false_eq_true, pz_10, pz_01, eq_self]
    exact ⟨_, _, rfl, rfl, rfl, pz_ro 0 _ hI⟩
  by_cases c2 : x2 = 2
  · have e : (13 : Int32) + nI p = nI (13 + p) := by rw [show (13 : Int32) = nI 13 from rfl, nI_add]
    have i := pz_ni (show 13 + p < 77 by omega) (by omega)
    simp only [h1, h2, fX4_knownBy, i8, cl, l17, c2, (show ¬ (2 : Int32) = 0 by decide), (show ¬ (2 : Int32) = 1 by decide), e, i, nI_clamp (show 13 + p < 2 ^ 31 by omega), ↓reduceIte, Option.bind_some, or_self, or_false, false_or, or_true, true_or, and_true, true_and, and_false, false_and, not_true_eq_false, not_false_eq_true, pz_10, pz_01, eq_self]
    exact ⟨_, _, rfl, rfl, rfl, pz_ro 0 _ hI⟩
  by_cases c3 : x2 = 3
  · have e : (21 : Int32) + nI p = nI (21 + p) := by rw [show (21 : Int32) = nI 21 from rfl, nI_add]
    have i := pz_ni (show 21 + p < 77 by omega) (by omega)
    simp only [h1, h2, fX4_firstSale, i8, cl, l18, c3, (show ¬ (3 : Int32) = 0 by decide), (show ¬ (3 : Int32) = 1 by decide), (show ¬ (3 : Int32) = 2 by decide), e, i, nI_clamp (show 21 + p < 2 ^ 31 by omega), ↓reduceIte, Option.bind_some, or_self, or_false, false_or, or_true, true_or, and_true, true_and, and_false, false_and, not_true_eq_false, not_false_eq_true, pz_10, pz_01, eq_self]
    exact ⟨_, _, rfl, rfl, rfl, pz_ro 0 _ hI⟩
  by_cases c4 : x2 = 4
  · have l8 : (la on.2.1).1.1 8 = mo.1.2 8 0 := hL.2.2.2.2.2.2.2.1
    obtain ⟨u1, u2⟩ := pz_worth N hN hA hL (mo.1.2 8 0) (v + (zMi mo 0 0).1.2 8 (13 + p))
    simp only [h1, h2, w3, w4, l8, k0, u1, u2, c4, (show ¬ (4 : Int32) = 0 by decide), (show ¬ (4 : Int32) = 1 by decide), (show ¬ (4 : Int32) = 2 by decide), (show ¬ (4 : Int32) = 3 by decide), ↓reduceIte, Option.bind_some, or_self, or_false, false_or, or_true, true_or, and_true, true_and, and_false, false_and, not_true_eq_false, not_false_eq_true, pz_10, pz_01, eq_self]
    exact ⟨_, _, rfl, rfl, rfl, pz_ro 0 _ hI⟩
  simp only [h1, h2, c0, c1, c2, c3, c4, ↓reduceIte, Option.bind_some, or_self, or_false, false_or, or_true, true_or, and_true, true_and, and_false, false_and, not_true_eq_false, not_false_eq_true, pz_10, pz_01, eq_self]
  exact ⟨_, _, rfl, rfl, rfl, pz_ro 0 _ hI⟩
/-- one cell of what keepers have -/
theorem pz_Hup {H : Nat → Int32} {K P k p v : Nat} (h : pz_H H K P) (hp : p < P) (hP : P ≤ 8) (hv : v ≤ 9) : pz_H (upd H (29 + 8 * k + p) (nI v)) K P := by
  refine ⟨fun k' p' hk' hp' => ?_, fun k' p' hk' h1 h2 => ?_⟩
  · unfold upd
    split
    · exact ⟨v, hv, rfl⟩
    · exact h.1 k' p' hk' hp'
  · unfold upd
    rw [if_neg (by omega)]
    exact h.2 k' p' hk' h1 h2
theorem pz_Lup {KL : List Nat} {kc : Nat → zKC} {L : zLS} {A H : Nat → Int32} {K P Q k p : Nat} (h : pz_L KL kc L A H K P Q) (hK : K ≤ 6) (hk : k < K) (hp : p < P) (hP : P ≤ 8) (v : Int32) : pz_L KL kc (zLA L 14 (upd (L.1.2 14) (8 * k + p) v)) A (upd H (29 + 8 * k + p) v) K P Q := by
  obtain ⟨l6, l7, l2, l1, l0, l4, l5, l8, l9, l12, l15, l14, lk⟩ := h
  refine ⟨l6, l7, l2, l1, l0, l4, l5, ?_, l9, ?_, ?_, ?_, lk⟩
  · rw [pk_un (by omega)]; exact l8
  · intro q hq
    rw [pk_un (by omega), pk_un (by omega)]; exact l12 q hq
  · intro q hq
    rw [pk_un (by omega), pk_un (by omega)]; exact l15 q hq
  · intro k' p' hk' hp'
    rw [pz_LA]
    unfold upd
    by_cases c : 8 * k' + p' = 8 * k + p
    · rw [if_pos c, if_pos (by omega)]
    · rw [if_neg c, if_neg (by omega)]
      exact l14 k' p' hk' hp'
theorem pz_whoN {KL : List Nat} {kc : Nat → zKC} {on : zNS} {rw rd ft tr : zOS} {la : Nat → zLS} {mo : zMS} (h : pz_Inv KL kc on rw rd ft tr la mo) : pz_who KL kc (la on.2.1) := h.2.2.2.2.2.2.2.2.1 on.2.1 (by rcases h.1 with ⟨a, b⟩ | ⟨a, b⟩ <;> omega)
/-- the invariant, the land now and the reference's HOW changed alike -/
theorem pz_nw {KL : List Nat} {kc : Nat → zKC} {on : zNS} {rw rd ft tr : zOS} {la : Nat → zLS} {mo mo' : zMS} {L : zLS} (h : pz_Inv KL kc on rw rd ft tr la mo) (hL : pz_now KL kc L mo') (hw : pz_who KL kc L) (e1 : mo'.1.1 1 = mo.1.1 1) (e2 : ∀ j, j ≠ 5 → j ≠ 8 → (j < 22 ∨ 26 ≤ j) → mo'.1.2 j = mo.1.2 j) (e3 : ∀ j, 9 < j → j < 20 → mo'.1.1 j = mo.1.1 j) (e4 : mo'.1.1 30 = mo.1.1 30) (e7 : mo'.1.1 7 = mo.1.1 7) (e5 : ∃ d, d < 2147483647 ∧ mo'.2 = lN d) : pz_Inv KL kc on rw rd ft tr (va_up la on.2.1 L) mo' := by
  obtain ⟨h0, h1, h2, h3, h4, hn, i0, i1, hwh, hd⟩ := h
  have n0 : on.2.1 ≠ 0 ∧ on.2.1 ≠ 1 := by rcases h0 with ⟨a, b⟩ | ⟨a, b⟩ <;> omega
  refine ⟨h0, by rw [e1]; exact h1, ?_, ?_, ?_, ?_, ?_, ?_, ?_, e5⟩
  · unfold pz_rw
    rw [e2 2 (by omega) (by omega) (by omega), e2 3 (by omega) (by omega) (by omega), e2 4 (by omega) (by omega) (by omega)]
    exact h2
  · unfold pz_rd
    rw [e3 11 (by omega) (by omega), e3 10 (by omega) (by omega), e2 9 (by omega) (by omega) (by omega)]
    exact h3
  · unfold pz_tr
    rw [e4, e2 29 (by omega) (by omega) (by omega)]
    exact h4
  · rw [va_up_self]
    exact hL
  · rw [va_up_ne _ _ (Ne.symm n0.1)]
    unfold pz_img
    rw [e2 26 (by omega) (by omega) (by omega), e2 27 (by omega) (by omega) (by omega), e2 28 (by omega) (by omega) (by omega), e7]
    exact i0
  · rw [va_up_ne _ _ (Ne.symm n0.2)]
    unfold pz_img
    rw [e2 26 (by omega) (by omega) (by omega), e2 27 (by omega) (by omega) (by omega), e2 28 (by omega) (by omega) (by omega), e7]
    exact i1
  · intro j hj k a hk hq
    unfold va_up at hq
    split at hq
    · exact hw k a hk hq
    · exact hwh j hj k a hk hq
set_option maxHeartbeats 4000000 in
set_option maxRecDepth 100000 in
theorem ps_tell {N : Nat} : zStep_tell N pz_Inv := by
  intro KL kc on rw rd ft tr la mo hI x1 x2 x3
  obtain ⟨K, P, hK, hP, l6, a3, l7, a4, hh⟩ := pz_KP N (mo := zMi mo 0 0) hI.2.2.2.2.2.1
  rcases pz_kpr N (KL := KL) (kc := kc) hK l6 a3 x1 with ⟨h1, h2, -⟩ | ⟨k, hk, rfl, h1, h2⟩
  · simp only [fX11_tell, fX12_tell, h1, h2, ↓reduceIte, Option.bind_some, or_self, or_false, false_or, or_true, true_or, and_true, true_and, and_false, false_and, not_true_eq_false, not_false_eq_true, pz_10, pz_01, eq_self]
    exact ⟨_, _, rfl, rfl, rfl, pz_ro 0 _ hI⟩
  obtain ⟨h7, -, Q, T, hA, hH, hL, hl⟩ := hh (.inl (by omega))
  rcases pz_pcs N hP l7 a4 x2 with ⟨p1, p2⟩ | ⟨p, hp, rfl, p1, p2⟩
  · simp only [fX11_tell, fX12_tell, h1, h2, p1, p2, ↓reduceIte, Option.bind_some, or_self, or_false, false_or, or_true, true_or, and_true, true_and, and_false, false_and, not_true_eq_false, not_false_eq_true, pz_10, pz_01, eq_self]
    exact ⟨_, _, rfl, rfl, rfl, pz_ro 0 _ hI⟩
  rcases pz_kpr N (KL := KL) (kc := kc) hK l6 a3 x3 with ⟨g1, g2, -⟩ | ⟨o, ho, rfl, g1, g2⟩
  · simp only [fX11_tell, fX12_tell, h1, h2, p1, p2, g1, g2, ↓reduceIte, Option.bind_some, or_self, or_false, false_or, or_true, true_or, and_true, true_and, and_false, false_and, not_true_eq_false, not_false_eq_true, pz_10, pz_01, eq_self]
    exact ⟨_, _, rfl, rfl, rfl, pz_ro 0 _ hI⟩
  by_cases c : nI k = nI o
  · simp only [fX11_tell, fX12_tell, h1, h2, p1, p2, g1, g2, c, ↓reduceIte, Option.bind_some, or_self, or_false, false_or, or_true, true_or, and_true, true_and, and_false, false_and, not_true_eq_false, not_false_eq_true, pz_10, pz_01, eq_self]
    exact ⟨_, _, rfl, rfl, rfl, pz_ro 0 _ hI⟩
  have k1 := pz_cnt N hA hL hk hp
  have k2 := pz_cnt N hA hL ho hp
  have k3 := pz_has N (zMi mo 0 0) (show k < 6 by omega) (show p < 8 by omega)
  by_cases d1 : (zMi mo 0 0).1.2 8 (29 + 8 * k + p) ≤ 0
  · simp only [fX11_tell, fX12_tell, h1, h2, p1, p2, g1, g2, c, k1, k3, pz_i1, d1, ↓reduceIte, Option.bind_some, or_self, or_false, false_or, or_true, true_or, and_true, true_and, and_false, false_and, not_true_eq_false, not_false_eq_true, pz_10, pz_01, eq_self]
    exact ⟨_, _, rfl, rfl, rfl, pz_ro 0 _ hI⟩
  obtain ⟨h, hh9, eh⟩ := hH.1 o p ho hp
  have eh' : mo.1.2 8 (29 + 8 * o + p) = nI h := eh
  have e : (29 : Int32) + (8 : Int32) * nI o + nI p = nI (29 + 8 * o + p) := by rw [show (29 : Int32) = nI 29 from rfl, show (8 : Int32) = nI 8 from rfl, pk_mul, nI_add, nI_add]
  have i := pz_ni (show 29 + 8 * o + p < 77 by omega) (by omega)
  have cl := nI_clamp (show 29 + 8 * o + p < 2 ^ 31 by omega)
  have q1 : nI h < (9 : Int32) ↔ h < 9 := nI_ltI (b := 9) (by omega) (by omega)
  have q2 : nI h ≤ (8 : Int32) ↔ h ≤ 8 := nI_leI (b := 8) (by omega) (by omega)
  by_cases d2 : h ≤ 8
  · have d3 : h < 9 := by omega
    have hA2 := (pz_A_n hA).1
    have x8 : nI o * (8 : Int32) + nI p = nI (8 * o + p) := by rw [show (8 : Int32) = nI 8 from rfl, pk_mul, nI_add, Nat.mul_comm]
    have ix := pz_ni (show 8 * o + p < 48 by omega) (by omega)
    have clx := nI_clamp (show 8 * o + p < 2 ^ 31 by omega)
    have l14 : (la on.2.1).1.2 14 (8 * o + p) = nI h := (hL.2.2.2.2.2.2.2.2.2.2.2.1 o p ho hp).trans eh
    have hL2 := pz_Lup hL (by omega) ho hp (by omega) (nI (h + 1))
    have hc2 := pz_cnt N hA hL2 ho hp
    rw [pk_us] at hc2
    have ea : fX4_addOne N (la on.2.1) (nI o) (nI p) = some (nI (h + 1), zLA (la on.2.1) 14 (upd ((la on.2.1).1.2 14) (8 * o + p) (nI (h + 1)))) := by
      simp only [fX4_addOne, g1, p1, x8, ix, clx, l14, nI_1, hc2, ↓reduceIte, Option.bind_some, or_self, or_false, false_or, or_true, true_or, and_true, true_and, and_false, false_and, not_true_eq_false, not_false_eq_true, pz_10, pz_01, eq_self]
    simp only [fX11_tell, fX12_tell, h1, h2, p1, p2, g1, g2, c, k1, k2, k3, pz_i1, d1, eh, eh', e, i, cl, q1, q2, d2, d3, ea, nI_1, pk_us, ↓reduceIte, Option.bind_some, or_self, or_false, false_or, or_true, true_or, and_true, true_and, and_false, false_and, not_true_eq_false, not_false_eq_true, pz_10, pz_01, eq_self]
    refine ⟨_, _, rfl, rfl, rfl, pz_nw hI (.inr ⟨h7, K, P, Q, T, hA, ?_, ?_, hl⟩) (pz_whoN hI) rfl ?_ (fun j h _ => pk_un (by omega)) rfl rfl hI.2.2.2.2.2.2.2.2.2⟩
    · exact pz_Hup hH hp (by omega) (by omega)
    · exact hL2
    · intro j h5 h8 _
      show va_up mo.1.2 8 _ j = _
      rw [va_up_ne _ _ h8]
  · have d3 : ¬ h < 9 := by omega
    simp only [fX11_tell, fX12_tell, h1, h2, p1, p2, g1, g2, c, k1, k2, k3, pz_i1, d1, eh, eh', e, i, cl, q1, q2, d2, d3, ↓reduceIte, Option.bind_some, or_self, or_false, false_or, or_true, true_or, and_true, true_and, and_false, false_and, not_true_eq_false, not_false_eq_true, pz_10, pz_01, eq_self]
    exact ⟨_, _, rfl, rfl, rfl, pz_ro 0 _ hI⟩
