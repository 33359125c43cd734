/-! THE PURE LAYER: rows (set, copy), the trace, counts -/
set_option maxHeartbeats 4000000 in
set_option maxRecDepth 100000 in
/-- a place of a row, or none -/
theorem pz_place (N : Nat) {rw : zOS} {r m : Nat} (hr : r < 8) (hm : m ≤ 40) (hs : rw.2 1 r = nI m) (x : Int32) : (fX7_isPlace N rw (nI r) x = some 0 ∧ fX11_within N x 0 (nI m - 1) = some 0) ∨ ∃ j, j < m ∧ x = nI j ∧ fX7_isPlace N rw (nI r) x = some 1 ∧ fX11_within N x 0 (nI m - 1) = some 1 := by
  have r1 := pz_row1 N hr
  have i0 := pz_ni hr (N := 8) (by omega)
  have cl := nI_clamp (show r < 2 ^ 31 by omega)
  rcases pz_blw N x m with ⟨h, h2⟩ | ⟨j, hj, rfl, h2⟩
  · refine .inl ⟨?_, h2⟩
    by_cases h3 : x < 0
    · simp only [fX7_isPlace, r1.1, h3, ↓reduceIte, Option.bind_some, or_self, or_false, false_or, or_true, true_or, and_true, true_and, and_false, false_and, not_true_eq_false, not_false_eq_true, pz_10, pz_01, eq_self]
    · have h4 := h.resolve_left h3
      simp only [fX7_isPlace, r1.1, h3, i0, cl, hs, h4, ↓reduceIte, Option.bind_some, or_self, or_false, false_or, or_true, true_or, and_true, true_and, and_false, false_and, not_true_eq_false, not_false_eq_true, pz_10, pz_01, eq_self]
  · refine .inr ⟨j, hj, rfl, ?_, h2⟩
    have h3 : ¬ nI j < 0 := nI_pos (by omega)
    have h4 : ¬ nI m ≤ nI j := nI_ge hj (by omega)
    simp only [fX7_isPlace, r1.1, h3, i0, cl, hs, h4, ↓reduceIte, Option.bind_some, or_self, or_false, false_or, or_true, true_or, and_true, true_and, and_false, false_and, not_true_eq_false, not_false_eq_true, pz_10, pz_01, eq_self]
theorem pz_rw_put {rw : zOS} {mo : zMS} (h : pz_rw rw mo) {r i : Nat} (hr : r < 8) (hi : i < 40) (v : Int32) : pz_rw (zpA rw 2 (upd (rw.2 2) (r * 40 + i) v)) (zMA mo 4 (upd (mo.1.2 4) (r * 40 + i) v)) := by
  intro q hq
  obtain ⟨k1, k2, m', k3, k4, k5, k6⟩ := h q hq
  refine ⟨k1, k2, m', k3, k4, k5, ?_⟩
  intro j hj
  show upd (rw.2 2) (r * 40 + i) v (q * 40 + j) = upd (mo.1.2 4) (r * 40 + i) v (q * 40 + j)
  unfold upd
  split
  · rfl
  · exact k6 j hj
set_option maxHeartbeats 4000000 in
set_option maxRecDepth 100000 in
theorem ps_set {N : Nat} : zStep_set N pz_Inv := by
  intro KL kc on rw rd ft tr la mo hI x1 x2 x3
  rcases pz_ix x1 8 with h | ⟨r, hr, rfl⟩
  · simp only [fX11_set, fX12_set, (pz_row0 N h).1, (pz_row0 N h).2, ↓reduceIte, Option.bind_some, or_self, or_false, false_or, or_true, true_or, and_true, true_and, and_false, false_and, not_true_eq_false, not_false_eq_true, pz_10, pz_01, eq_self]
    exact ⟨_, _, rfl, rfl, rfl, pz_th 0 hI⟩
  have r1 := pz_row1 N hr
  have i0 := pz_ni hr (N := 8) (by omega)
  have cl := nI_clamp (show r < 2 ^ 31 by omega)
  obtain ⟨g1, g2, m, g3, g4, g5, g6⟩ := hI.2.2.1 r hr
  rcases pz_miss N hI.2.2.1 hr with ⟨g, g7⟩ | ⟨g, g8, g7⟩
  · have g8 : ¬ 0 ≤ mo.1.2 2 r := by rw [g]; decide
    simp only [fX11_set, fX12_set, fX11_found, fX12_finding, r1.1, r1.2, i0, cl, g7, g8, ↓reduceIte, Option.bind_some, or_self, or_false, false_or, or_true, true_or, and_true, true_and, and_false, false_and, not_true_eq_false, not_false_eq_true, pz_10, pz_01, eq_self]
    exact ⟨_, _, rfl, rfl, rfl, pz_st 1 hI⟩
  rcases pz_place N hr g3 g4 x2 with ⟨h2, h3⟩ | ⟨j, hj, rfl, h2, h3⟩
  · simp only [fX11_set, fX12_set, fX11_found, fX12_finding, r1.1, r1.2, i0, cl, g5, g7, g8, pz_in_0, h2, h3, ↓reduceIte, Option.bind_some, or_self, or_false, false_or, or_true, true_or, and_true, true_and, and_false, false_and, not_true_eq_false, not_false_eq_true, pz_10, pz_01, eq_self]
    exact ⟨_, _, rfl, rfl, rfl, pz_st 2 hI⟩
  have hx : nI r * (40 : Int32) + nI j = nI (r * 40 + j) := by rw [show (40 : Int32) = nI 40 from rfl, pk_mul, nI_add]
  have hy : (40 : Int32) * nI r + nI j = nI (r * 40 + j) := by rw [Int32.mul_comm, hx]
  have hb : r * 40 + j < 320 := by omega
  have i1 := pz_ni hb (by omega)
  have cl1 := nI_clamp (show r * 40 + j < 2 ^ 31 by omega)
  have e21 : ¬ (2 : Int32) = 0 := by decide
  have e22 : ¬ (2 : Int32) = 1 := by decide
  have e11 : ¬ (1 : Int32) = 0 := by decide
  have fin : ∀ v, pz_Inv KL kc (zNf on 0) (zpA rw 2 (upd (rw.2 2) (r * 40 + j) v)) rd ft tr la (zMA (zMi (zMi mo 0 0) 1 0) 4 (upd (mo.1.2 4) (r * 40 + j) v)) := fun v =>
    ⟨hI.1, rfl, pz_rw_put (mo := zMi (zMi mo 0 0) 1 0) hI.2.2.1 hr (by omega) v, hI.2.2.2.1, hI.2.2.2.2.1, hI.2.2.2.2.2⟩
  rcases g with g | g | g
  · simp only [fX11_set, fX12_set, fX11_fine, fX7_put, fX7_narrowed, r1.1, r1.2, i0, cl, i1, cl1, hx, hy, g1, g, g5, g7, (show (0 : Int32) ≤ 0 by decide), pz_in_0, h2, h3, pk_us, ↓reduceIte, Option.bind_some, or_self, or_false, false_or, or_true, true_or, and_true, true_and, and_false, false_and, not_true_eq_false, not_false_eq_true, pz_10, pz_01, eq_self]
    exact ⟨_, _, rfl, rfl, rfl, fin _⟩
  · simp only [fX11_set, fX12_set, fX11_fine, fX7_put, fX7_narrowed, r1.1, r1.2, i0, cl, i1, cl1, hx, hy, g1, g, g5, g7, (show (0 : Int32) ≤ 1 by decide), e11, pz_in_0, h2, h3, pk_us, ↓reduceIte, Option.bind_some, or_self, or_false, false_or, or_true, true_or, and_true, true_and, and_false, false_and, not_true_eq_false, not_false_eq_true, pz_10, pz_01, eq_self]
    exact ⟨_, _, rfl, rfl, rfl, fin _⟩
  · simp only [fX11_set, fX12_set, fX11_fine, fX7_put, fX7_narrowed, r1.1, r1.2, i0, cl, i1, cl1, hx, hy, g1, g, g5, g7, (show (0 : Int32) ≤ 2 by decide), e21, e22, pz_in_0, h2, h3, pk_us, ↓reduceIte, Option.bind_some, or_self, or_false, false_or, or_true, true_or, and_true, true_and, and_false, false_and, not_true_eq_false, not_false_eq_true, pz_10, pz_01, eq_self]
    exact ⟨_, _, rfl, rfl, rfl, fin _⟩
set_option maxHeartbeats 4000000 in
set_option maxRecDepth 100000 in
theorem ps_trace {N : Nat} : zStep_trace N pz_Inv := by
  intro KL kc on rw rd ft tr la mo hI x1
  obtain ⟨n, hn, h1, h2, h3⟩ := hI.2.2.2.2.1
  rcases pz_blw N x1 n with ⟨h, h4⟩ | ⟨j, hj, rfl, h4⟩
  · have e : fX9_at N tr x1 = some (-1000000) := by
      by_cases h5 : x1 < 0
      · simp only [fX9_at, h5, ↓reduceIte, Option.bind_some, or_self, or_false, false_or, or_true, true_or, and_true, true_and, and_false, false_and, not_true_eq_false, not_false_eq_true]
      · have h6 := h.resolve_left h5
        simp only [fX9_at, h5, h1, h6, ↓reduceIte, Option.bind_some, or_self, or_false, false_or, or_true, true_or, and_true, true_and, and_false, false_and, not_true_eq_false, not_false_eq_true]
    simp only [fX11_trace, fX12_trace, e, h2, pz_in_0, h4, ↓reduceIte, Option.bind_some, or_self, or_false, false_or, or_true, true_or, and_true, true_and, and_false, false_and, not_true_eq_false, not_false_eq_true, pz_10, pz_01, eq_self]
    exact ⟨_, _, rfl, rfl, rfl, pz_th 0 hI⟩
  · have e : fX9_at N tr (nI j) = some (tr.2 0 j) := by
      simp (disch := omega) only [fX9_at, h1, pzl_0, pzl_1, pzl_2, pzl_3, pzl_4, pzl_5, pzl_6, pzl_7, pzl_8, pzl_9, pzl_10, pzl_13, pzl_16, pzl_21, pzl_24, pzl_29, pzl_30, pzl_36, pzl_40, pzl_42, pzl_50, pzl_58, pzl_77, pzl_116, pzl_120, pzl_154, pzl_320, pzl_500, nI_add, pk_mul, nI_clamp, nI_leI, nI_ltI, nI_eq, pz_leF, pz_leT, pz_ltF, pz_ltT, pz_eqF, pz_eqT, ↓reduceIte, Option.bind_some, or_self, or_false, false_or, or_true, true_or, and_true, true_and, and_false, false_and, not_true_eq_false, not_false_eq_true, ↓reduceIte, Option.bind_some, or_self, or_false, false_or, or_true, true_or, and_true, true_and, and_false, false_and, not_true_eq_false, not_false_eq_true]
    have i0 := pz_ni (show j < 16 by omega) (by omega)
    simp only [fX11_trace, fX12_trace, e, h2, pz_in_0, h4, i0, nI_clamp (show j < 2 ^ 31 by omega), ↓reduceIte, Option.bind_some, or_self, or_false, false_or, or_true, true_or, and_true, true_and, and_false, false_and, not_true_eq_false, not_false_eq_true, pz_10, pz_01, eq_self]
    exact ⟨_, _, rfl, rfl, h3 j hj, pz_th 0 hI⟩
set_option maxHeartbeats 4000000 in
set_option maxRecDepth 100000 in
theorem pz_there (N : Nat) {rw : zOS} {mo : zMS} (h : pz_rw rw mo) : ∀ (n k : Nat) (c : Int32), k ≤ 8 → 8 - k < n → ∃ v, fX7_countThere_l1 N rw n c (nI k) = some v ∧ fX12_count_l1 N mo n c (nI k) = some v := by
  intro n
  induction n with
  | zero => intro k c h1 h2; omega
  | succ n ih =>
    intro k c h1 h2
    rcases Nat.lt_or_ge k 8 with h3 | h3
    · obtain ⟨g1, g2, -⟩ := h k h3
      have i0 := pz_ni h3 (by omega)
      have cl := nI_clamp (show k < 2 ^ 31 by omega)
      have n8 : ¬ (8 : Int32) ≤ nI k := nI_ge (b := 8) h3 (by omega)
      rcases g2 with g | g
      · obtain ⟨v, e1, e2⟩ := ih (k + 1) c (by omega) (by omega)
        refine ⟨v, ?_, ?_⟩
        · simp only [fX7_countThere_l1, n8, i0, cl, g1, g, nI_1, ↓reduceIte, Option.bind_some, or_self, or_false, false_or, or_true, true_or, and_true, true_and, and_false, false_and, not_true_eq_false, not_false_eq_true]; exact e1
        · simp only [fX12_count_l1, n8, i0, cl, g, nI_1, (show (-1 : Int32) < 0 by decide), Int32.add_zero, ↓reduceIte, Option.bind_some, or_self, or_false, false_or, or_true, true_or, and_true, true_and, and_false, false_and, not_true_eq_false, not_false_eq_true]; exact e2
      · have g5 : ¬ mo.1.2 2 k = -1 := by rcases g with g | g | g <;> rw [g] <;> decide
        have g6 : ¬ mo.1.2 2 k < 0 := by rcases g with g | g | g <;> rw [g] <;> decide
        obtain ⟨v, e1, e2⟩ := ih (k + 1) (c + 1) (by omega) (by omega)
        refine ⟨v, ?_, ?_⟩
        · simp only [fX7_countThere_l1, n8, i0, cl, g1, g5, nI_1, ↓reduceIte, Option.bind_some, or_self, or_false, false_or, or_true, true_or, and_true, true_and, and_false, false_and, not_true_eq_false, not_false_eq_true]; exact e1
        · simp only [fX12_count_l1, n8, i0, cl, g6, nI_1, ↓reduceIte, Option.bind_some, or_self, or_false, false_or, or_true, true_or, and_true, true_and, and_false, false_and, not_true_eq_false, not_false_eq_true]; exact e2
    · have e : k = 8 := by omega
      subst e
      exact ⟨c, rfl, rfl⟩
set_option maxHeartbeats 4000000 in
set_option maxRecDepth 100000 in
theorem ps_count {N : Nat} (hN : 200000 ≤ N) : zStep_count N pz_Inv := by
  intro KL kc on rw rd ft tr la mo hI x1
  obtain ⟨v, e1, e2⟩ := pz_there N (mo := zMi mo 0 0) hI.2.2.1 N 0 0 (by omega) (by omega)
  rw [show nI 0 = 0 from rfl] at e1 e2
  have hL : (la on.2.1).1.1 6 = mo.1.2 5 3 ∧ (la on.2.1).1.1 7 = mo.1.2 5 4 ∧ (la on.2.1).1.1 2 = mo.1.2 5 2 ∧ (la on.2.1).1.1 1 = mo.1.2 5 1 ∧ (la on.2.1).1.1 0 = mo.1.2 5 0 ∧ (la on.2.1).1.1 8 = mo.1.2 8 0 := by
    rcases hI.2.2.2.2.2.1 with ⟨-, a, b, c, d, e, f, g, h⟩ | ⟨-, K, P, Q, T, -, -, h, -⟩
    · exact ⟨a.trans b.symm, c.trans d.symm, e, f, g, h⟩
    · exact ⟨h.1, h.2.1, h.2.2.1, h.2.2.2.1, h.2.2.2.2.1, h.2.2.2.2.2.2.2.1⟩
  have hR : rd.1 0 = mo.1.1 10 := by
    obtain ⟨-, n, -, a, b, -⟩ := hI.2.2.2.1
    exact a.trans b.symm
  have k1 : ((1 : Int32).toNatClampNeg) = 1 := rfl
  have k0 : ((0 : Int32).toNatClampNeg) = 0 := rfl
  have k2 : ((2 : Int32).toNatClampNeg) = 2 := rfl
  have k3 : ((3 : Int32).toNatClampNeg) = 3 := rfl
  have k4 : ((4 : Int32).toNatClampNeg) = 4 := rfl
  unfold fX11_count fX12_count
  by_cases c0 : x1 = 0
  · simp only [c0, fX7_countThere, e1, e2, ↓reduceIte, Option.bind_some]
    exact ⟨_, _, rfl, rfl, rfl, pz_ro 0 _ hI⟩
  by_cases c1 : x1 = 1
  · simp only [c1, (show ¬ (1 : Int32) = 0 by decide), ↓reduceIte, k3]
    exact ⟨_, _, rfl, rfl, hL.1, pz_ro 0 _ hI⟩
  by_cases c2 : x1 = 2
  · simp only [c2, (show ¬ (2 : Int32) = 0 by decide), (show ¬ (2 : Int32) = 1 by decide), ↓reduceIte, k4]
    exact ⟨_, _, rfl, rfl, hL.2.1, pz_ro 0 _ hI⟩
  simp only [c0, c1, c2, ↓reduceIte, k0, k1, k2]
  by_cases c3 : x1 = 3
  · simp only [c3, ↓reduceIte]
    exact ⟨_, _, rfl, rfl, hL.2.2.1, pz_ro 0 _ hI⟩
  by_cases c4 : x1 = 4
  · simp only [c4, c3, (show ¬ (4 : Int32) = 3 by decide), ↓reduceIte]
    exact ⟨_, _, rfl, rfl, hL.2.2.2.2.2, pz_ro 0 _ hI⟩
  simp only [c3, c4, ↓reduceIte]
  by_cases c5 : x1 = 5
  · simp only [c5, ↓reduceIte]
    exact ⟨_, _, rfl, rfl, hR, pz_ro 0 _ hI⟩
  simp only [c5, ↓reduceIte]
  by_cases c6 : x1 = 6
  · simp only [c6, ↓reduceIte]
    exact ⟨_, _, rfl, rfl, hL.2.2.2.1, pz_ro 0 _ hI⟩
  simp only [c6, ↓reduceIte]
  by_cases c7 : x1 = 7
  · simp only [c7, ↓reduceIte]
    exact ⟨_, _, rfl, rfl, hL.2.2.2.2.1, pz_ro 0 _ hI⟩
  simp only [c7, ↓reduceIte]
  exact ⟨_, _, rfl, rfl, rfl, pz_ro 0 _ hI⟩
